/-! The weather, on. -/
theorem c_X9_spreadHour {G : zG} {lay : zLay} {σ C0 : zMem} {nx x b : Int} (hT : TopL lay x) {M : Int → Int} (hA : WeAt b) (hW : WeR σ b M) (hM : zOK M) (hc : zCh (σ (b + 2))) : zMM G 3 KX9_spreadHour [zP (x + b)] lay (tC x σ C0) nx (0, 0) (zZ' none (fun s => zOut b 4 σ s ∧ WeR s b M ∧ ∀ t, 0 ≤ t → t < 5 → s (b + 2) t = qGoC M (σ (b + 2)) t) lay C0 nx x) := by
  refine z_met' (L := [zP (x + b), zU]) gX9_spreadHour.1 rfl rfl (Nat.le_of_ble_eq_true rfl) rfl ?_
  have hb0 := hA.b0 (by decide)
  have hx := hT.1
  have hne : x + b ≠ -1 := by omega
  have hl : ∀ s : Int, 0 ≤ s → s ≤ 5 → ∀ S : zMem, zOut (b + 3) 1 σ S → (∀ t, 0 ≤ t → t < 5 → S (b + 3) t = zsum (qGoT M (σ (b + 2)) t) s) → zW G KX9_spreadHour 3 (zZ' none (fun s => zOut b 4 σ s ∧ WeR s b M ∧ ∀ t, 0 ≤ t → t < 5 → s (b + 2) t = qGoC M (σ (b + 2)) t) lay C0 nx x) 10 [zP (x + b), zI s] [] lay (tC x S C0) nx (0, 0) := by
    refine z_up 5 ?_ ?_
    · intro S hS hK
      refine z_il1 eX9_spreadHour_10 ?_
      refine z_iconst eX9_spreadHour_11 ?_
      refine z_icmp_ge (tgt := 26) eX9_spreadHour_12 rfl ⟨⟨by omega, by omega⟩, ⟨by omega, by omega⟩⟩ (fun h12 => ?_) (fun h12 => (by exfalso; omega))
      refine z_al0 eX9_spreadHour_26 hne ?_
      first | refine z_ta0 lX9_31 eX9_spreadHour_27 rfl hT hA (by decide) rfl rfl ?_ | refine z_ta lX9_31 eX9_spreadHour_27 rfl hT hA ⟨by decide, by decide⟩ rfl rfl ?_
      refine z_iconst eX9_spreadHour_30 ?_
      refine z_al0 eX9_spreadHour_31 hne ?_
      first | refine z_ta0 lX9_28 eX9_spreadHour_32 rfl hT hA (by decide) rfl rfl ?_ | refine z_ta lX9_28 eX9_spreadHour_32 rfl hT hA ⟨by decide, by decide⟩ rfl rfl ?_
      refine z_iconst eX9_spreadHour_35 ?_
      refine z_iconst eX9_spreadHour_36 ?_
      refine z_tc eX9_spreadHour_37 aX9_40 hT hA hA ⟨by decide, by decide⟩ ⟨by decide, by decide⟩ rfl rfl (fun _ => rfl) (fun _ => rfl) ⟨by omega, by omega, by omega, by omega, by omega⟩ (Nat.le_of_ble_eq_true rfl) (Nat.le_of_ble_eq_true rfl) ?_
      refine z_return eX9_spreadHour_40 rfl ?_
      refine zZv ⟨fun i hi => ?_, hW.out ?_ ?_, fun t t0 t1 => ?_⟩
      · funext j; unfold zcp; rw [if_neg (by omega)]; exact congrFun (hS i (by omega)) j
      · funext j; unfold zcp; rw [if_neg (by omega)]; exact congrFun (hS b (by omega)) j
      · funext j; unfold zcp; rw [if_neg (by omega)]; exact congrFun (hS (b + 1) (by omega)) j
      · unfold zcp; rw [if_pos ⟨rfl, t0, by omega⟩, show (0 : Int) + (t - 0) = t by omega]; exact hK t t0 t1
    · intro s s0 s1 ih S hS hK
      have e2 : S (b + 2) = σ (b + 2) := hS _ (by omega)
      refine z_il1 eX9_spreadHour_10 ?_
      refine z_iconst eX9_spreadHour_11 ?_
      refine z_icmp_ge (tgt := 26) eX9_spreadHour_12 rfl ⟨⟨by omega, by omega⟩, ⟨by omega, by omega⟩⟩ (fun h12 => (by exfalso; omega)) (fun h12 => ?_)
      refine z_al0 eX9_spreadHour_15 hne ?_
      refine z_il1 eX9_spreadHour_16 ?_
      refine z_V1vz eX9_spreadHour_17 vX9_57 rfl rfl (Nat.le_of_ble_eq_true rfl) (Nat.le_of_ble_eq_true rfl) ((hA).L0 hT (by decide)) (c_X9_give hT hA (hW.out (hS _ (by omega)) (hS _ (by omega))) hM (by rw [e2]; exact hc) ⟨s0, s1⟩) (fun s17 hs17 => ?_)
      refine z_ii1 eX9_spreadHour_20 (Nat.ne_of_beq_eq_false rfl) ?_
      refine z_goto eX9_spreadHour_23 (tgt := 10) rfl ?_
      refine ih s17 (hS.trans hs17.1) (fun t t0 t1 => ?_)
      rw [hs17.2 t t0 t1, hK t t0 t1, e2, zsum_s _ s0]
  refine z_al0 eX9_spreadHour_0 hne ?_
  first | refine z_ta0 lX9_31 eX9_spreadHour_1 rfl hT hA (by decide) rfl rfl ?_ | refine z_ta lX9_31 eX9_spreadHour_1 rfl hT hA ⟨by decide, by decide⟩ rfl rfl ?_
  refine z_iconst eX9_spreadHour_4 ?_
  refine z_S2v eX9_spreadHour_5 vX9_22 rfl rfl (Nat.le_of_ble_eq_true rfl) (Nat.le_of_ble_eq_true rfl) (c_J7_fill_53178 (by omega) (hA.LL hT ⟨by decide, by decide⟩) ⟨by decide, by decide⟩) ?_
  rw [tC_fil (hA.1 _ (by decide) (by decide)) (fun _ => hA.nn ⟨by decide, by decide⟩ rfl)]
  refine z_iconst eX9_spreadHour_8 ?_
  refine z_is1 eX9_spreadHour_9 (Nat.ne_of_beq_eq_false rfl) ?_
  refine hl 0 (by decide) (by decide) _ (fun i hi => ?_) (fun t t0 t1 => ?_)
  · funext j; unfold zfil; rw [if_neg (by omega)]
  · unfold zfil; rw [if_pos ⟨rfl, t0, t1⟩, zsum_0]
theorem c_X9_dryBehind {G : zG} {lay : zLay} {σ C0 : zMem} {nx x b : Int} (hT : TopL lay x) {n : Int} {M : Int → Int} (hA : WeAt b) (hW : WeR σ b M) (hM : zOK M) (hn : 0 ≤ n ∧ n ≤ 12) : zMM G 4 KX9_dryBehind [zP (x + b), zI n] lay (tC x σ C0) nx (0, 0) (zZ' (some (zI (qDry M n))) (fun s => zOut b 4 σ s ∧ WeR s b M) lay C0 nx x) := by
  refine z_met' (L := [zP (x + b), zI n, zU, zU]) gX9_dryBehind.1 rfl rfl (Nat.le_of_ble_eq_true rfl) rfl ?_
  have hb0 := hA.b0 (by decide)
  have hx := hT.1
  have hne : x + b ≠ -1 := by omega
  have w32 : ∀ S : zMem, zOut b 4 σ S → WeR S b M → (∀ t, 0 ≤ t → t < 5 → S (b + 2) t = qDryC M n t) → zW G KX9_dryBehind 4 (zZ' (some (zI (qDry M n))) (fun s => zOut b 4 σ s ∧ WeR s b M) lay C0 nx x) 32 [zP (x + b), zI n, zI 0, zI 0] [] lay (tC x S C0) nx (0, 0) := by
    intro S hS hWS h7
    have hl : ∀ t : Int, 0 ≤ t → t ≤ 5 → zW G KX9_dryBehind 4 (zZ' (some (zI (qDry M n))) (fun s => zOut b 4 σ s ∧ WeR s b M) lay C0 nx x) 32 [zP (x + b), zI n, zI (zsum (fun t => if t = 2 then 0 else qDryC M n t) t), zI t] [] lay (tC x S C0) nx (0, 0) := by
      refine z_up 5 ?_ ?_
      · skip
        refine z_il3 eX9_dryBehind_32 ?_
        refine z_iconst eX9_dryBehind_33 ?_
        refine z_icmp_ge (tgt := 61) eX9_dryBehind_34 rfl ⟨⟨by omega, by omega⟩, ⟨by omega, by omega⟩⟩ (fun h34 => ?_) (fun h34 => (by exfalso; omega))
        refine z_il2 eX9_dryBehind_61 ?_
        refine z_ireturn eX9_dryBehind_62 rfl ?_
        exact zZe ⟨hS, hWS⟩ (by rw [zsum_5]; unfold qDry; simp)
      · intro t t0 t1 ih
        have e7 := h7 t t0 t1
        rw [zsum_s _ t0] at ih
        refine z_il3 eX9_dryBehind_32 ?_
        refine z_iconst eX9_dryBehind_33 ?_
        refine z_icmp_ge (tgt := 61) eX9_dryBehind_34 rfl ⟨⟨by omega, by omega⟩, ⟨by omega, by omega⟩⟩ (fun h34 => (by exfalso; omega)) (fun h34 => ?_)
        refine z_il2 eX9_dryBehind_37 ?_
        refine z_il3 eX9_dryBehind_38 ?_
        refine z_iconst eX9_dryBehind_39 ?_
        refine z_icmp_ne (tgt := 47) eX9_dryBehind_40 rfl ⟨⟨by omega, by omega⟩, ⟨by omega, by omega⟩⟩ (fun h40 => ?_) (fun h40 => ?_)
        · refine z_al0 eX9_dryBehind_47 hne ?_
          first | refine z_ta0 lX9_28 eX9_dryBehind_48 rfl hT hA (by decide) rfl rfl ?_ | refine z_ta lX9_28 eX9_dryBehind_48 rfl hT hA ⟨by decide, by decide⟩ rfl rfl ?_
          refine z_il3 eX9_dryBehind_51 ?_
          refine z_tl eX9_dryBehind_52 hT hA ⟨by decide, by decide⟩ rfl rfl ⟨by omega, by omega⟩ ?_
          first | rw [e7] | skip
          refine z_iadd eX9_dryBehind_53 ?_
          refine z_is2 eX9_dryBehind_54 (Nat.ne_of_beq_eq_false rfl) ?_
          refine z_ii3 eX9_dryBehind_55 (Nat.ne_of_beq_eq_false rfl) ?_
          refine z_goto eX9_dryBehind_58 (tgt := 32) rfl ?_
          first | (rw [if_pos h40] at ih; exact ih) | (rw [if_neg h40] at ih; exact ih)
        · refine z_iconst eX9_dryBehind_43 ?_
          refine z_goto eX9_dryBehind_44 (tgt := 53) rfl ?_
          first | rw [e7] | skip
          refine z_iadd eX9_dryBehind_53 ?_
          refine z_is2 eX9_dryBehind_54 (Nat.ne_of_beq_eq_false rfl) ?_
          refine z_ii3 eX9_dryBehind_55 (Nat.ne_of_beq_eq_false rfl) ?_
          refine z_goto eX9_dryBehind_58 (tgt := 32) rfl ?_
          first | (rw [if_pos h40] at ih; exact ih) | (rw [if_neg h40] at ih; exact ih)
    exact hl 0 (by decide) (by decide)
  have w6 : ∀ i : Int, 0 ≤ i → i ≤ n → ∀ S : zMem, zOut b 4 σ S → WeR S b M → (∀ t, 0 ≤ t → t < 5 → S (b + 2) t = qDryC M i t) → zW G KX9_dryBehind 4 (zZ' (some (zI (qDry M n))) (fun s => zOut b 4 σ s ∧ WeR s b M) lay C0 nx x) 6 [zP (x + b), zI n, zI i, zU] [] lay (tC x S C0) nx (0, 0) := by
    refine z_up n ?_ ?_
    · intro S hS hWS h7
      refine z_il2 eX9_dryBehind_6 ?_
      refine z_il1 eX9_dryBehind_7 ?_
      refine z_icmp_ge (tgt := 28) eX9_dryBehind_8 rfl ⟨⟨by omega, by omega⟩, ⟨by omega, by omega⟩⟩ (fun h8 => ?_) (fun h8 => (by exfalso; omega))
      refine z_iconst eX9_dryBehind_28 ?_
      refine z_is2 eX9_dryBehind_29 (Nat.ne_of_beq_eq_false rfl) ?_
      refine z_iconst eX9_dryBehind_30 ?_
      refine z_is3 eX9_dryBehind_31 (Nat.ne_of_beq_eq_false rfl) ?_
      exact w32 S hS hWS h7
    · intro i i0 i1 ih S hS hWS h7
      have hc := (qDryC_ok hM i0).c h7
      have e : qDryC M (i + 1) = zput (qGoC M (qDryC M i)) 2 0 := by unfold qDryC; rw [zfold_s _ _ i0]
      refine z_il2 eX9_dryBehind_6 ?_
      refine z_il1 eX9_dryBehind_7 ?_
      refine z_icmp_ge (tgt := 28) eX9_dryBehind_8 rfl ⟨⟨by omega, by omega⟩, ⟨by omega, by omega⟩⟩ (fun h8 => (by exfalso; omega)) (fun h8 => ?_)
      refine z_al0 eX9_dryBehind_11 hne ?_
      refine z_V0vz eX9_dryBehind_12 vX9_64 rfl rfl (Nat.le_of_ble_eq_true rfl) (Nat.le_of_ble_eq_true rfl) ((hA).L0 hT (by decide)) (c_X9_spreadHour hT hA hWS hM hc) (fun s12 hs12 => ?_)
      refine z_al0 eX9_dryBehind_15 hne ?_
      first | refine z_ta0 lX9_28 eX9_dryBehind_16 rfl hT hA (by decide) rfl rfl ?_ | refine z_ta lX9_28 eX9_dryBehind_16 rfl hT hA ⟨by decide, by decide⟩ rfl rfl ?_
      refine z_iconst eX9_dryBehind_19 ?_
      refine z_iconst eX9_dryBehind_20 ?_
      refine z_ts eX9_dryBehind_21 hT hA ⟨by decide, by decide⟩ rfl rfl ⟨by omega, by omega⟩ ?_
      refine z_ii2 eX9_dryBehind_22 (Nat.ne_of_beq_eq_false rfl) ?_
      refine z_goto eX9_dryBehind_25 (tgt := 6) rfl ?_
      refine ih _ ((hS.trans hs12.1).set ⟨by omega, by omega⟩) (hs12.2.1.out (zset_o (by omega)) (zset_o (by omega))) (fun t t0 t1 => ?_)
      rw [e, zset_at, zput_at]
      by_cases e2 : t = 2
      · rw [if_pos ⟨rfl, e2⟩, if_pos e2]
      · rw [if_neg (fun z => e2 z.2), if_neg e2, hs12.2.2 t t0 t1]; exact qGoC_c h7 t
  refine z_al0 eX9_dryBehind_0 hne ?_
  refine z_V0vz eX9_dryBehind_1 vX9_61 rfl rfl (Nat.le_of_ble_eq_true rfl) (Nat.le_of_ble_eq_true rfl) ((hA).L0 hT (by decide)) (c_X9_startChances hT hA hW hM) (fun s1 hs1 => ?_)
  refine z_iconst eX9_dryBehind_4 ?_
  refine z_is2 eX9_dryBehind_5 (Nat.ne_of_beq_eq_false rfl) ?_
  exact w6 0 (by decide) hn.1 s1 hs1.1 hs1.2.1 hs1.2.2
theorem c_X9_takeWeather {G : zG} {lay : zLay} {σ C0 : zMem} {nx x b : Int} (hT : TopL lay x) {b2 : Int} {M : Int → Int} (hA : WeAt b) (hB : WeAt b2) (hd : b + 4 ≤ b2 ∨ b2 + 4 ≤ b) (hW : WeR σ b2 M) : zMM G 2 KX9_takeWeather [zP (x + b), zP (x + b2)] lay (tC x σ C0) nx (0, 0) (zZ' none (fun s => zOut b 4 σ s ∧ WeR s b M) lay C0 nx x) := by
  refine z_met' (L := [zP (x + b), zP (x + b2)]) gX9_takeWeather.1 rfl rfl (Nat.le_of_ble_eq_true rfl) rfl ?_
  have hb0 := hA.b0 (by decide)
  have hb2 := hB.b0 (by decide)
  have hx := hT.1
  have hne : x + b ≠ -1 := by omega
  obtain ⟨⟨w0, w1, w2, w3⟩, w4⟩ := hW
  refine z_al0 eX9_takeWeather_0 hne ?_
  refine z_al1 eX9_takeWeather_1 (by omega) ?_
  first | refine z_tg0 (j := 0) lX9_9 eX9_takeWeather_2 rfl hT hB (by decide) rfl rfl rfl ?_ | refine z_tg (j := 0) lX9_9 eX9_takeWeather_2 rfl hT hB ⟨by decide, by decide⟩ rfl rfl rfl ?_
  rw [w0]
  first | refine z_tp0 (j := 0) lX9_9 eX9_takeWeather_5 rfl hT hA (by decide) rfl rfl rfl ?_ | refine z_tp (j := 0) lX9_9 eX9_takeWeather_5 rfl hT hA ⟨by decide, by decide⟩ rfl rfl rfl ?_
  refine z_al0 eX9_takeWeather_8 hne ?_
  refine z_al1 eX9_takeWeather_9 (by omega) ?_
  first | refine z_tg0 (j := 1) lX9_34 eX9_takeWeather_10 rfl hT hB (by decide) rfl rfl rfl ?_ | refine z_tg (j := 1) lX9_34 eX9_takeWeather_10 rfl hT hB ⟨by decide, by decide⟩ rfl rfl rfl ?_
  rw [zset_o (by omega), w1]
  first | refine z_tp0 (j := 1) lX9_34 eX9_takeWeather_13 rfl hT hA (by decide) rfl rfl rfl ?_ | refine z_tp (j := 1) lX9_34 eX9_takeWeather_13 rfl hT hA ⟨by decide, by decide⟩ rfl rfl rfl ?_
  refine z_al0 eX9_takeWeather_16 hne ?_
  refine z_al1 eX9_takeWeather_17 (by omega) ?_
  first | refine z_tg0 (j := 2) lX9_37 eX9_takeWeather_18 rfl hT hB (by decide) rfl rfl rfl ?_ | refine z_tg (j := 2) lX9_37 eX9_takeWeather_18 rfl hT hB ⟨by decide, by decide⟩ rfl rfl rfl ?_
  rw [zset_o (by omega), zset_o (by omega), w2]
  first | refine z_tp0 (j := 2) lX9_37 eX9_takeWeather_21 rfl hT hA (by decide) rfl rfl rfl ?_ | refine z_tp (j := 2) lX9_37 eX9_takeWeather_21 rfl hT hA ⟨by decide, by decide⟩ rfl rfl rfl ?_
  refine z_al0 eX9_takeWeather_24 hne ?_
  refine z_al1 eX9_takeWeather_25 (by omega) ?_
  first | refine z_tg0 (j := 3) lX9_15 eX9_takeWeather_26 rfl hT hB (by decide) rfl rfl rfl ?_ | refine z_tg (j := 3) lX9_15 eX9_takeWeather_26 rfl hT hB ⟨by decide, by decide⟩ rfl rfl rfl ?_
  rw [zset_o (by omega), zset_o (by omega), zset_o (by omega), w3]
  first | refine z_tp0 (j := 3) lX9_15 eX9_takeWeather_29 rfl hT hA (by decide) rfl rfl rfl ?_ | refine z_tp (j := 3) lX9_15 eX9_takeWeather_29 rfl hT hA ⟨by decide, by decide⟩ rfl rfl rfl ?_
  refine z_al1 eX9_takeWeather_32 (by omega) ?_
  first | refine z_ta0 lX9_18 eX9_takeWeather_33 rfl hT hB (by decide) rfl rfl ?_ | refine z_ta lX9_18 eX9_takeWeather_33 rfl hT hB ⟨by decide, by decide⟩ rfl rfl ?_
  refine z_iconst eX9_takeWeather_36 ?_
  refine z_al0 eX9_takeWeather_37 hne ?_
  first | refine z_ta0 lX9_18 eX9_takeWeather_38 rfl hT hA (by decide) rfl rfl ?_ | refine z_ta lX9_18 eX9_takeWeather_38 rfl hT hA ⟨by decide, by decide⟩ rfl rfl ?_
  refine z_iconst eX9_takeWeather_41 ?_
  refine z_al0 eX9_takeWeather_42 hne ?_
  first | refine z_ta0 lX9_18 eX9_takeWeather_43 rfl hT hA (by decide) rfl rfl ?_ | refine z_ta lX9_18 eX9_takeWeather_43 rfl hT hA ⟨by decide, by decide⟩ rfl rfl ?_
  refine z_tn eX9_takeWeather_46 hT hA ⟨by decide, by decide⟩ rfl ?_
  refine z_tc eX9_takeWeather_47 aX9_40 hT hB hA ⟨by decide, by decide⟩ ⟨by decide, by decide⟩ rfl rfl (fun _ => rfl) (fun _ => rfl) ⟨by omega, by omega, by omega, by omega, by omega⟩ (Nat.le_of_ble_eq_true rfl) (Nat.le_of_ble_eq_true rfl) ?_
  refine z_return eX9_takeWeather_50 rfl ?_
  refine zZv ⟨fun i hi => ?_, ⟨⟨?_, ?_, ?_, ?_⟩, fun t t0 t1 => ?_⟩⟩
  · funext j; unfold zcp; rw [if_neg (by omega), zset_o (by omega), zset_o (by omega), zset_o (by omega), zset_o (by omega)]
  · unfold zcp; rw [if_neg (by omega), zset_f (by decide), zset_f (by decide), zset_f (by decide), zset_eq]
  · unfold zcp; rw [if_neg (by omega), zset_f (by decide), zset_f (by decide), zset_eq]
  · unfold zcp; rw [if_neg (by omega), zset_f (by decide), zset_eq]
  · unfold zcp; rw [if_neg (by omega), zset_eq]
  · unfold zcp; rw [if_pos ⟨rfl, t0, by omega⟩, zset_o (by omega), zset_o (by omega), zset_o (by omega), zset_o (by omega), show (0 : Int) + (t - 0) = t by omega]; exact w4 t t0 t1
