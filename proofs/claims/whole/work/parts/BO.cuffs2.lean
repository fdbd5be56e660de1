/-! In how many rows of skies. -/
theorem c_X2_waysTo {G : zG} {lay : zLay} {σ C0 : zMem} {nx x b : Int} (hT : TopL lay x) {t : Int} {M : Int → Int} (hB : WeAt b) (hW : WeR σ b M) (hI : zInv M) (ht : 0 ≤ t ∧ t < 5) : zMM G 1 KX2_waysTo [zP (x + 303), zI t, zP (x + (b + 1))] lay (tC x σ C0) nx (0, 0) (zR (some (zI (zsum (fun s => if 0 < M (13 + 5 * s + t) then σ 305 s else 0) 5))) lay (tC x (σ) (C0)) nx) := by
  refine z_met' (L := [zP (x + 303), zI t, zP (x + (b + 1)), zU, zU, zU]) gX2_waysTo.1 rfl rfl (Nat.le_of_ble_eq_true rfl) rfl ?_
  have hA := CuAt
  have hb0 := hB.b0 (by decide)
  have hx := hT.1
  have hne : x + 303 ≠ -1 := by omega
  have hl : ∀ s : Int, 0 ≤ s → s ≤ 5 → ∀ y5 : zAV, zW G KX2_waysTo 1 (zR (some (zI (zsum (fun s => if 0 < M (13 + 5 * s + t) then σ 305 s else 0) 5))) lay (tC x σ C0) nx) 5 [zP (x + 303), zI t, zP (x + (b + 1)), zI (zsum (fun s => if 0 < M (13 + 5 * s + t) then σ 305 s else 0) s), zI s, y5] [] lay (tC x σ C0) nx (0, 0) := by
    refine z_up 5 ?_ ?_
    · intro y5
      refine z_il4 eX2_waysTo_5 ?_
      refine z_iconst eX2_waysTo_7 ?_
      refine z_icmp_ge (tgt := 49) eX2_waysTo_8 rfl ⟨⟨by omega, by omega⟩, ⟨by omega, by omega⟩⟩ (fun h8 => ?_) (fun h8 => (by exfalso; omega))
      refine z_il3 eX2_waysTo_49 ?_
      refine z_ireturn eX2_waysTo_50 rfl ?_
      first | exact ⟨rfl, rfl, rfl, rfl⟩ | exact zRb1 (by omega) | exact zRb0 (by omega) | exact zRe (by omega)
    · intro s s0 s1 ih y5
      have hw := hI.W (s := s) (t := t) ⟨s0, s1⟩ ht
      rw [zsum_s _ s0] at ih
      refine z_il4 eX2_waysTo_5 ?_
      refine z_iconst eX2_waysTo_7 ?_
      refine z_icmp_ge (tgt := 49) eX2_waysTo_8 rfl ⟨⟨by omega, by omega⟩, ⟨by omega, by omega⟩⟩ (fun h8 => (by exfalso; omega)) (fun h8 => ?_)
      refine z_il4 eX2_waysTo_11 ?_
      refine z_iconst eX2_waysTo_13 ?_
      refine z_imul eX2_waysTo_14 ?_
      refine z_il1 eX2_waysTo_15 ?_
      refine z_iadd eX2_waysTo_16 ?_
      refine z_is5 eX2_waysTo_17 (Nat.ne_of_beq_eq_false rfl) ?_
      refine z_il5 eX2_waysTo_19 ?_
      refine z_al2 eX2_waysTo_21 (by omega) ?_
      refine z_tn eX2_waysTo_22 hT hB ⟨by decide, by decide⟩ rfl ?_
      refine z_icmp_ge (tgt := 43) eX2_waysTo_23 rfl ⟨⟨by omega, by omega⟩, ⟨by omega, by omega⟩⟩ (fun h23 => (by exfalso; omega)) (fun h23 => ?_)
      refine z_al2 eX2_waysTo_26 (by omega) ?_
      refine z_il5 eX2_waysTo_27 ?_
      refine z_tl eX2_waysTo_29 hT hB ⟨by decide, by decide⟩ rfl rfl ⟨by omega, by omega⟩ ?_
      rw [hW.w ⟨s0, s1⟩ ht]
      refine z_if_le (tgt := 43) eX2_waysTo_30 rfl ⟨by omega, by omega⟩ (fun h30 => ?_) (fun h30 => ?_)
      · refine z_ii4 eX2_waysTo_43 (Nat.ne_of_beq_eq_false rfl) ?_
        refine z_goto eX2_waysTo_46 (tgt := 5) rfl ?_
        first | (rw [if_pos (by omega)] at ih; exact ih _) | (rw [if_neg (by omega), Int.add_zero] at ih; exact ih _) | fail
      · refine z_il3 eX2_waysTo_33 ?_
        refine z_al0 eX2_waysTo_34 hne ?_
        first | refine z_ta0 lX2_15 eX2_waysTo_35 rfl hT hA (by decide) rfl rfl ?_ | refine z_ta lX2_15 eX2_waysTo_35 rfl hT hA ⟨by decide, by decide⟩ rfl rfl ?_
        refine z_il4 eX2_waysTo_38 ?_
        refine z_tl eX2_waysTo_40 hT hA ⟨by decide, by decide⟩ rfl rfl ⟨by omega, by omega⟩ ?_
        refine z_iadd eX2_waysTo_41 ?_
        refine z_is3 eX2_waysTo_42 (Nat.ne_of_beq_eq_false rfl) ?_
        refine z_ii4 eX2_waysTo_43 (Nat.ne_of_beq_eq_false rfl) ?_
        refine z_goto eX2_waysTo_46 (tgt := 5) rfl ?_
        first | (rw [if_pos (by omega)] at ih; exact ih _) | (rw [if_neg (by omega), Int.add_zero] at ih; exact ih _) | fail
  refine z_iconst eX2_waysTo_0 ?_
  refine z_is3 eX2_waysTo_1 (Nat.ne_of_beq_eq_false rfl) ?_
  refine z_iconst eX2_waysTo_2 ?_
  refine z_is4 eX2_waysTo_3 (Nat.ne_of_beq_eq_false rfl) ?_
  exact hl 0 (by decide) (by decide) zU
theorem c_X2_countWays {G : zG} {lay : zLay} {σ C0 : zMem} {nx x b : Int} (hT : TopL lay x) {N c : Int} {T M : Int → Int} (hB : WeAt b) (hd : b + 4 ≤ 303) (hW : WeR σ b M) (hI : zInv M) (hal : ∀ h s, 0 ≤ h → h < 12 → 0 ≤ s → s < 5 → (zbit (σ 304 h) s = 1 ↔ ¬ qBad T M N c h s)) : zMM G 2 KX2_countWays [zP (x + 303), zP (x + (b + 1))] lay (tC x σ C0) nx (0, 0) (zZ' (some (zI (zsum (qWay T M N c 11) 5))) (fun q => zOut 305 2 σ q ∧ ∀ t, 0 ≤ t → t < 5 → q 305 t = qWay T M N c 11 t) lay C0 nx x) := by
  refine z_met' (L := [zP (x + 303), zP (x + (b + 1)), zU, zU]) gX2_countWays.1 rfl rfl (Nat.le_of_ble_eq_true rfl) rfl ?_
  have hA := CuAt
  have hb0 := hB.b0 (by decide)
  have hx := hT.1
  have hne : x + 303 ≠ -1 := by omega
  obtain ⟨Q, hQ⟩ : ∃ Q, zZ' (some (zI (zsum (qWay T M N c 11) 5))) (fun q => zOut 305 2 σ q ∧ ∀ t, 0 ≤ t → t < 5 → q 305 t = qWay T M N c 11 t) lay C0 nx x = Q := ⟨_, rfl⟩
  have h0 : ∀ t, 0 ≤ t → t < 5 → zbit (σ 304 11) t = qWay T M N c 0 t := by
    intro t t0 t1
    have h := hal 11 t (by decide) (by decide) t0 t1
    have z := zbit_01 (σ 304 11) t
    unfold qWay
    by_cases e : qBad T M N c 11 t
    · rw [zif_t e]
      have : ¬ zbit (σ 304 11) t = 1 := fun q => h.mp q e
      omega
    · rw [zif_f e]; exact h.mpr e
  have hk : ∀ (k : Nat) t, k ≤ 10 → 0 ≤ t → t < 5 → zbit (σ 304 (10 - (k : Int))) t * zsum (fun s => if 0 < M (13 + 5 * s + t) then qWay T M N c k s else 0) 5 = qWay T M N c (k + 1) t := by
    intro k t hk t0 t1
    have h := hal (10 - (k : Int)) t (by omega) (by omega) t0 t1
    have z := zbit_01 (σ 304 (10 - (k : Int))) t
    rw [show qWay T M N c (k + 1) t = zif (qBad T M N c (10 - k) t) 0 (zsum (fun s => if 0 < M (13 + 5 * s + t) then qWay T M N c k s else 0) 5) from rfl]
    by_cases e : qBad T M N c (10 - k) t
    · have q9 : ¬ zbit (σ 304 (10 - (k : Int))) t = 1 := fun q => (h.mp q) e
      have q8 : zbit (σ 304 (10 - (k : Int))) t = 0 := by omega
      rw [zif_t e, q8, Int.zero_mul]
    · rw [zif_f e, h.mpr e, Int.one_mul]
  have w95 : ∀ S : zMem, zOut 305 2 σ S → (∀ t, 0 ≤ t → t < 5 → S 305 t = qWay T M N c 11 t) → ∀ t : Int, 0 ≤ t → t ≤ 5 → zW G KX2_countWays 2 Q 97 [zP (x + 303), zP (x + (b + 1)), zI (zsum (qWay T M N c 11) t), zI t] [] lay (tC x S C0) nx (0, 0) := by
    intro S hS hf
    refine z_up 5 ?_ ?_
    · subst hQ
      refine z_il3 eX2_countWays_97 ?_
      refine z_iconst eX2_countWays_98 ?_
      refine z_icmp_ge (tgt := 117) eX2_countWays_99 rfl ⟨⟨by omega, by omega⟩, ⟨by omega, by omega⟩⟩ (fun h99 => ?_) (fun h99 => (by exfalso; omega))
      refine z_il2 eX2_countWays_117 ?_
      refine z_ireturn eX2_countWays_118 rfl ?_
      exact zZe ⟨hS, hf⟩ rfl
    · intro t t0 t1 ih
      rw [zsum_s _ t0] at ih
      refine z_il3 eX2_countWays_97 ?_
      refine z_iconst eX2_countWays_98 ?_
      refine z_icmp_ge (tgt := 117) eX2_countWays_99 rfl ⟨⟨by omega, by omega⟩, ⟨by omega, by omega⟩⟩ (fun h99 => (by exfalso; omega)) (fun h99 => ?_)
      refine z_il2 eX2_countWays_102 ?_
      refine z_al0 eX2_countWays_103 hne ?_
      first | refine z_ta0 lX2_15 eX2_countWays_104 rfl hT hA (by decide) rfl rfl ?_ | refine z_ta lX2_15 eX2_countWays_104 rfl hT hA ⟨by decide, by decide⟩ rfl rfl ?_
      refine z_il3 eX2_countWays_107 ?_
      refine z_tl eX2_countWays_108 hT hA ⟨by decide, by decide⟩ rfl rfl ⟨by omega, by omega⟩ ?_
      rw [show S (303 + 2) t = S 305 t from rfl, hf t t0 t1]
      refine z_iadd eX2_countWays_109 ?_
      refine z_is2 eX2_countWays_110 (Nat.ne_of_beq_eq_false rfl) ?_
      refine z_ii3 eX2_countWays_111 (Nat.ne_of_beq_eq_false rfl) ?_
      refine z_goto eX2_countWays_114 (tgt := 97) rfl ?_
      exact ih
  have w33 : ∀ (m k : Nat), k + m = 11 → ∀ (S : zMem) (y3 : zAV), zOut 305 2 σ S → (∀ t, 0 ≤ t → t < 5 → S 305 t = qWay T M N c k t) → zW G KX2_countWays 2 Q 33 [zP (x + 303), zP (x + (b + 1)), zI (10 - (k : Int)), y3] [] lay (tC x S C0) nx (0, 0) := by
    intro m
    induction m with
    | zero =>
      intro k hkm S y3 hS hf
      have : k = 11 := by omega
      subst this
      refine z_il2 eX2_countWays_33 ?_
      refine z_if_lt (tgt := 93) eX2_countWays_34 rfl ⟨by omega, by omega⟩ (fun h34 => ?_) (fun h34 => (by exfalso; omega))
      refine z_iconst eX2_countWays_93 ?_
      refine z_is2 eX2_countWays_94 (Nat.ne_of_beq_eq_false rfl) ?_
      refine z_iconst eX2_countWays_95 ?_
      refine z_is3 eX2_countWays_96 (Nat.ne_of_beq_eq_false rfl) ?_
      have := w95 S hS hf 0 (by decide) (by decide)
      rwa [zsum_0] at this
    | succ m ih =>
      intro k hkm S y3 hS hf
      have hin : ∀ t : Int, 0 ≤ t → t ≤ 5 → ∀ S2 : zMem, zOut 306 1 S S2 → (∀ j, 0 ≤ j → j < t → S2 306 j = qWay T M N c (k + 1) j) → zW G KX2_countWays 2 Q 39 [zP (x + 303), zP (x + (b + 1)), zI (10 - (k : Int)), zI t] [] lay (tC x S2 C0) nx (0, 0) := by
        refine z_up 5 ?_ ?_
        · intro S2 hS2 hg
          refine z_il3 eX2_countWays_39 ?_
          refine z_iconst eX2_countWays_40 ?_
          refine z_icmp_ge (tgt := 73) eX2_countWays_41 rfl ⟨⟨by omega, by omega⟩, ⟨by omega, by omega⟩⟩ (fun h41 => ?_) (fun h41 => (by exfalso; omega))
          refine z_al0 eX2_countWays_73 hne ?_
          first | refine z_ta0 lX2_18 eX2_countWays_74 rfl hT hA (by decide) rfl rfl ?_ | refine z_ta lX2_18 eX2_countWays_74 rfl hT hA ⟨by decide, by decide⟩ rfl rfl ?_
          refine z_iconst eX2_countWays_77 ?_
          refine z_al0 eX2_countWays_78 hne ?_
          first | refine z_ta0 lX2_15 eX2_countWays_79 rfl hT hA (by decide) rfl rfl ?_ | refine z_ta lX2_15 eX2_countWays_79 rfl hT hA ⟨by decide, by decide⟩ rfl rfl ?_
          refine z_iconst eX2_countWays_82 ?_
          refine z_iconst eX2_countWays_83 ?_
          refine z_tc eX2_countWays_84 aX2_45 hT hA hA ⟨by decide, by decide⟩ ⟨by decide, by decide⟩ rfl rfl (fun _ => rfl) (fun _ => rfl) ⟨by omega, by omega, by omega, by omega, by omega⟩ (Nat.le_of_ble_eq_true rfl) (Nat.le_of_ble_eq_true rfl) ?_
          refine z_ii2 eX2_countWays_87 (Nat.ne_of_beq_eq_false rfl) ?_
          refine z_goto eX2_countWays_90 (tgt := 33) rfl ?_
          have := ih (k + 1) (by omega) (zcp S2 (303 + 3) (303 + 2) 0 0 5) (zI 5) (fun i hi => by rw [zcp_o (by omega), hS2 i (by omega)]; exact hS i hi) (fun t t0 t1 => by rw [show (305 : Int) = 303 + 2 by decide, zcp_t ⟨t0, t1⟩]; exact hg t t0 t1)
          rwa [show 10 - ((k + 1 : Nat) : Int) = 10 - (k : Int) + -1 by omega] at this
        · intro t t0 t1 iht S2 hS2 hg
          have e4 : S2 (303 + 1) = σ 304 := by rw [show (303 : Int) + 1 = 304 by decide, hS2 304 (by decide)]; exact hS 304 (by decide)
          have hW2 : WeR S2 b M := hW.out (by rw [hS2 b (by omega)]; exact hS b (by omega)) (by rw [hS2 (b + 1) (by omega)]; exact hS (b + 1) (by omega))
          have e5 : zsum (fun s => if 0 < M (13 + 5 * s + t) then S2 305 s else 0) 5 = zsum (fun s => if 0 < M (13 + 5 * s + t) then qWay T M N c k s else 0) 5 := zsum_congr (fun s s0 s1 => by rw [hS2 305 (by decide), hf s s0 s1])
          refine z_il3 eX2_countWays_39 ?_
          refine z_iconst eX2_countWays_40 ?_
          refine z_icmp_ge (tgt := 73) eX2_countWays_41 rfl ⟨⟨by omega, by omega⟩, ⟨by omega, by omega⟩⟩ (fun h41 => (by exfalso; omega)) (fun h41 => ?_)
          refine z_al0 eX2_countWays_44 hne ?_
          first | refine z_ta0 lX2_18 eX2_countWays_45 rfl hT hA (by decide) rfl rfl ?_ | refine z_ta lX2_18 eX2_countWays_45 rfl hT hA ⟨by decide, by decide⟩ rfl rfl ?_
          refine z_il3 eX2_countWays_48 ?_
          refine z_al0 eX2_countWays_49 hne ?_
          first | refine z_ta0 lX2_9 eX2_countWays_50 rfl hT hA (by decide) rfl rfl ?_ | refine z_ta lX2_9 eX2_countWays_50 rfl hT hA ⟨by decide, by decide⟩ rfl rfl ?_
          refine z_il2 eX2_countWays_53 ?_
          refine z_tl eX2_countWays_54 hT hA ⟨by decide, by decide⟩ rfl rfl ⟨by omega, by omega⟩ ?_
          rw [e4]
          refine z_il3 eX2_countWays_55 ?_
          refine z_N2 eX2_countWays_56 vX2_37 rfl (Nat.le_of_ble_eq_true rfl) (Nat.le_of_ble_eq_true rfl) (c_X11_bitOf hT ⟨by omega, by omega⟩) ?_
          refine z_al0 eX2_countWays_59 hne ?_
          refine z_il3 eX2_countWays_60 ?_
          refine z_al1 eX2_countWays_61 (by omega) ?_
          refine z_V2 eX2_countWays_62 vX2_41 rfl rfl (Nat.le_of_ble_eq_true rfl) (Nat.le_of_ble_eq_true rfl) ((hA).L0 hT (by decide)) (c_X2_waysTo hT hB hW2 hI ⟨t0, t1⟩) ?_
          rw [e5]
          refine z_imul eX2_countWays_65 ?_
          rw [hk k t (by omega) t0 t1]
          refine z_ts eX2_countWays_66 hT hA ⟨by decide, by decide⟩ rfl rfl ⟨by omega, by omega⟩ ?_
          refine z_ii3 eX2_countWays_67 (Nat.ne_of_beq_eq_false rfl) ?_
          refine z_goto eX2_countWays_70 (tgt := 39) rfl ?_
          refine iht _ (hS2.set ⟨by decide, by decide⟩) (fun j j0 j1 => ?_)
          rw [show (306 : Int) = 303 + 3 by decide]
          by_cases e : j = t
          · rw [e]; exact zset_eq
          · rw [zset_f e]; exact hg j j0 (by omega)
      refine z_il2 eX2_countWays_33 ?_
      refine z_if_lt (tgt := 93) eX2_countWays_34 rfl ⟨by omega, by omega⟩ (fun h34 => (by exfalso; omega)) (fun h34 => ?_)
      refine z_iconst eX2_countWays_37 ?_
      refine z_is3 eX2_countWays_38 (Nat.ne_of_beq_eq_false rfl) ?_
      exact hin 0 (by decide) (by decide) S (zOut.refl _ _ _) (fun j j0 j1 => by omega)
  have w2 : ∀ t : Int, 0 ≤ t → t ≤ 5 → ∀ S : zMem, zOut 305 1 σ S → (∀ j, 0 ≤ j → j < t → S 305 j = qWay T M N c 0 j) → zW G KX2_countWays 2 Q 2 [zP (x + 303), zP (x + (b + 1)), zI t, zU] [] lay (tC x S C0) nx (0, 0) := by
    refine z_up 5 ?_ ?_
    · intro S hS hf
      refine z_il2 eX2_countWays_2 ?_
      refine z_iconst eX2_countWays_3 ?_
      refine z_icmp_ge (tgt := 30) eX2_countWays_4 rfl ⟨⟨by omega, by omega⟩, ⟨by omega, by omega⟩⟩ (fun h4 => ?_) (fun h4 => (by exfalso; omega))
      refine z_bipush eX2_countWays_30 (by decide) ?_
      refine z_is2 eX2_countWays_32 (Nat.ne_of_beq_eq_false rfl) ?_
      exact w33 11 0 rfl S zU (hS.sub ⟨by decide, by decide⟩) hf
    · intro t t0 t1 ih S hS hf
      refine z_il2 eX2_countWays_2 ?_
      refine z_iconst eX2_countWays_3 ?_
      refine z_icmp_ge (tgt := 30) eX2_countWays_4 rfl ⟨⟨by omega, by omega⟩, ⟨by omega, by omega⟩⟩ (fun h4 => (by exfalso; omega)) (fun h4 => ?_)
      refine z_al0 eX2_countWays_7 hne ?_
      first | refine z_ta0 lX2_15 eX2_countWays_8 rfl hT hA (by decide) rfl rfl ?_ | refine z_ta lX2_15 eX2_countWays_8 rfl hT hA ⟨by decide, by decide⟩ rfl rfl ?_
      refine z_il2 eX2_countWays_11 ?_
      refine z_al0 eX2_countWays_12 hne ?_
      first | refine z_ta0 lX2_9 eX2_countWays_13 rfl hT hA (by decide) rfl rfl ?_ | refine z_ta lX2_9 eX2_countWays_13 rfl hT hA ⟨by decide, by decide⟩ rfl rfl ?_
      refine z_bipush eX2_countWays_16 (by decide) ?_
      refine z_tl eX2_countWays_18 hT hA ⟨by decide, by decide⟩ rfl rfl ⟨by omega, by omega⟩ ?_
      rw [show S (303 + 1) = σ 304 from hS 304 (by decide)]
      refine z_il2 eX2_countWays_19 ?_
      refine z_N2 eX2_countWays_20 vX2_37 rfl (Nat.le_of_ble_eq_true rfl) (Nat.le_of_ble_eq_true rfl) (c_X11_bitOf hT ⟨by omega, by omega⟩) ?_
      rw [h0 t t0 t1]
      refine z_ts eX2_countWays_23 hT hA ⟨by decide, by decide⟩ rfl rfl ⟨by omega, by omega⟩ ?_
      refine z_ii2 eX2_countWays_24 (Nat.ne_of_beq_eq_false rfl) ?_
      refine z_goto eX2_countWays_27 (tgt := 2) rfl ?_
      refine ih _ (hS.set ⟨by decide, by decide⟩) (fun j j0 j1 => ?_)
      rw [show (305 : Int) = 303 + 2 by decide]
      by_cases e : j = t
      · rw [e]; exact zset_eq
      · rw [zset_f e]; exact hf j j0 (by omega)
  rw [hQ]
  refine z_iconst eX2_countWays_0 ?_
  refine z_is2 eX2_countWays_1 (Nat.ne_of_beq_eq_false rfl) ?_
  exact w2 0 (by decide) (by decide) σ (zOut.refl _ _ _) (fun j j0 j1 => by omega)
theorem c_X2_skiesNow {G : zG} {lay : zLay} {σ C0 : zMem} {nx x : Int} (hT : TopL lay x) (hb : ∀ t, 0 ≤ t → t < 5 → zin (σ 305 t)) : zMM G 1 KX2_skiesNow [zP (x + 303)] lay (tC x σ C0) nx (0, 0) (zR (some (zI (qSkies (σ 305)))) lay (tC x (σ) (C0)) nx) := by
  refine z_met' (L := [zP (x + 303), zU, zU]) gX2_skiesNow.1 rfl rfl (Nat.le_of_ble_eq_true rfl) rfl ?_
  have hA := CuAt
  have hx := hT.1
  have hne : x + 303 ≠ -1 := by omega
  unfold qSkies
  have hl : ∀ t : Int, 0 ≤ t → t ≤ 5 → zW G KX2_skiesNow 1 (zR (some (zI (zors (fun t => if 0 < σ 305 t then zshl 1 t else 0) 5))) lay (tC x σ C0) nx) 4 [zP (x + 303), zI (zors (fun t => if 0 < σ 305 t then zshl 1 t else 0) t), zI t] [] lay (tC x σ C0) nx (0, 0) := by
    refine z_up 5 ?_ ?_
    · skip
      refine z_il2 eX2_skiesNow_4 ?_
      refine z_iconst eX2_skiesNow_5 ?_
      refine z_icmp_ge (tgt := 30) eX2_skiesNow_6 rfl ⟨⟨by omega, by omega⟩, ⟨by omega, by omega⟩⟩ (fun h6 => ?_) (fun h6 => (by exfalso; omega))
      refine z_il1 eX2_skiesNow_30 ?_
      refine z_ireturn eX2_skiesNow_31 rfl ?_
      first | exact ⟨rfl, rfl, rfl, rfl⟩ | exact zRb1 (by omega) | exact zRb0 (by omega) | exact zRe (by omega)
    · intro t t0 t1 ih
      rw [zors_s _ t0] at ih
      refine z_il2 eX2_skiesNow_4 ?_
      refine z_iconst eX2_skiesNow_5 ?_
      refine z_icmp_ge (tgt := 30) eX2_skiesNow_6 rfl ⟨⟨by omega, by omega⟩, ⟨by omega, by omega⟩⟩ (fun h6 => (by exfalso; omega)) (fun h6 => ?_)
      refine z_al0 eX2_skiesNow_9 hne ?_
      first | refine z_ta0 lX2_15 eX2_skiesNow_10 rfl hT hA (by decide) rfl rfl ?_ | refine z_ta lX2_15 eX2_skiesNow_10 rfl hT hA ⟨by decide, by decide⟩ rfl rfl ?_
      refine z_il2 eX2_skiesNow_13 ?_
      refine z_tl eX2_skiesNow_14 hT hA ⟨by decide, by decide⟩ rfl rfl ⟨by omega, by omega⟩ ?_
      rw [show σ (303 + 2) t = σ 305 t from rfl]
      refine z_if_le (tgt := 24) eX2_skiesNow_15 rfl (hb t t0 t1) (fun h15 => ?_) (fun h15 => ?_)
      · refine z_ii2 eX2_skiesNow_24 (Nat.ne_of_beq_eq_false rfl) ?_
        refine z_goto eX2_skiesNow_27 (tgt := 4) rfl ?_
        first | (rw [if_pos (by omega)] at ih; exact ih) | (rw [if_neg (by omega), zor_0 (zors_in _ t0)] at ih; exact ih) | fail
      · refine z_il1 eX2_skiesNow_18 ?_
        refine z_iconst eX2_skiesNow_19 ?_
        refine z_il2 eX2_skiesNow_20 ?_
        refine z_ishl eX2_skiesNow_21 ?_
        refine z_ior eX2_skiesNow_22 ?_
        refine z_is1 eX2_skiesNow_23 (Nat.ne_of_beq_eq_false rfl) ?_
        refine z_ii2 eX2_skiesNow_24 (Nat.ne_of_beq_eq_false rfl) ?_
        refine z_goto eX2_skiesNow_27 (tgt := 4) rfl ?_
        first | (rw [if_pos (by omega)] at ih; exact ih) | (rw [if_neg (by omega), zor_0 (zors_in _ t0)] at ih; exact ih) | fail
  refine z_iconst eX2_skiesNow_0 ?_
  refine z_is1 eX2_skiesNow_1 (Nat.ne_of_beq_eq_false rfl) ?_
  refine z_iconst eX2_skiesNow_2 ?_
  refine z_is2 eX2_skiesNow_3 (Nat.ne_of_beq_eq_false rfl) ?_
  exact hl 0 (by decide) (by decide)
