/-! Words, on: a word that stands here. -/
theorem zStr_m {t : Nat} {wd : List Int} (hq : (zStr[t]?).map (fun q => q.2.2.2) = some wd) : ∃ q, zStr[t]? = some q ∧ q.2.2.2 = wd := by
  cases h : zStr[t]? with
  | none => rw [h] at hq; cases hq
  | some q => rw [h] at hq; exact ⟨q, rfl, Option.some.inj hq⟩
theorem c_X10_atWord {G : zG} {lay : zLay} {σ C0 : zMem} {nx x w e a f : Int} {T : Int → Int} (hT : TopL lay x) (hX : TxC x σ w T e) (ha : 0 ≤ a ∧ a ≤ e) {t : Nat} {wd : List Int} {n : Int} (hS : TxS lay C0) (hq : (zStr[t]?).map (fun q => q.2.2.2) = some wd) (hn : (wd.length : Int) = n) (hn1 : 1 ≤ n) : zMM G 6 KX10_atWord [zP (x + w), zP (-10 - (t : Int))] lay (tC x (zTk σ w T e a f) C0) nx (0, 0) (zR (some (zI (zbi (qhas T e (qscan qbl T e a) wd)))) lay (tC x (zTk σ w T e a f) (C0)) nx) := by
  refine z_met' (L := [zP (x + w), zP (-10 - (t : Int)), zU]) gX10_atWord.1 rfl rfl (Nat.le_of_ble_eq_true rfl) rfl ?_
  have hA := hX.A
  have hx := hT.1
  have hw := hX.w1
  have hne : x + w ≠ -1 := by omega
  have he := hX.e0
  have hnw := hX.ne
  obtain ⟨q, hq1, hq2⟩ := zStr_m hq
  obtain ⟨hS1, hS2, hS3⟩ := hS t q hq1
  have hlen := (zStr_ok q (List.mem_of_getElem? hq1)).1
  rw [hq2, hn] at hS1 hS2
  rw [hq2] at hS3 hlen
  have hn2 : 0 ≤ n ∧ n < 64 := by omega
  have hC : ∀ i : Int, 0 ≤ i → i < n → ∀ S : zMem, tC x S C0 (-1000 - (t : Int)) i = wd.getD i.toNat 0 ∧ 0 ≤ wd.getD i.toNat 0 ∧ wd.getD i.toNat 0 < 128 := by
    intro i h0 h1 S
    have e9 := hS3 i.toNat (by omega)
    rw [Int.toNat_of_nonneg h0] at e9
    have e8 := zStr_c hq1 i.toNat (by rw [hq2]; omega)
    rw [hq2] at e8
    exact ⟨(tC_out (by unfold inT; omega)).trans e9, e8⟩
  unfold zTk
  have hk := qKind_bd T e (qscan qbl T e a)
  have hk1 := qKind_1 (T := T) (e := e) (b := qscan qbl T e a)
  have hbd := qskip_bd (T := T) ha.2
  generalize qscan qbl T e a = b at hk hk1 hbd ⊢
  have hbd2 := qscan_bd (P := qlet) (T := T) (e := e) (k := b)
  by_cases hk9 : qKind T e b = 1
  · have hb9 := hk1.mp hk9
    have hsp : qStop T e b = qscan qlet T e b := by unfold qStop; rw [if_pos hb9.1, if_pos hb9.2, qscan_t hb9.1 hb9.2]
    rw [hk9]
    have hl : ∀ i : Int, 0 ≤ i → i ≤ n → qscan qlet T e b = b + n → (∀ j : Nat, (j : Int) < i → T (b + j) = wd.getD j 0) → zW G KX10_atWord 6 (zR (some (zI (zbi (qhas T e b wd)))) lay (tC x (zWd σ w f b (qStop T e b) 1) C0) nx) 28 [zP (x + w), zP (-10 - (t : Int)), zI i] [] lay (tC x (zWd σ w f b (qStop T e b) 1) C0) nx (0, 0) := by
      intro i h0 h1 hsc
      revert i
      refine z_up n ?_ ?_
      · intro hj
        have hh : qhas T e b wd := ⟨by rw [hn]; exact hsc, fun j h => hj j (by omega)⟩
        refine z_il2 eX10_atWord_28 ?_
        refine z_al1 eX10_atWord_29 (by omega) ?_
        refine z_txl eX10_atWord_30 vX10_43 rfl rfl (Nat.le_of_ble_eq_true rfl) (Nat.le_of_ble_eq_true rfl) hS1 hS2 hn2 ?_
        refine z_icmp_ge (tgt := 63) eX10_atWord_33 rfl ⟨⟨by omega, by omega⟩, ⟨by omega, by omega⟩⟩ (fun h33 => ?_) (fun h33 => (by exfalso; omega))
        refine z_iconst eX10_atWord_63 ?_
        refine z_zreturn eX10_atWord_64 rfl (by first | exact Or.inl rfl | exact Or.inr rfl | exact zbi_01 _ | assumption | omega) ?_
        rw [zbi_t hh]; exact ⟨rfl, rfl, rfl, rfl⟩
      · intro i h0 h1 ih hj
        have hb := hX.bt (b + i) (by omega) (by omega)
        obtain ⟨c1, c2, c3⟩ := hC i h0 h1 (zWd σ w f b (qStop T e b) 1)
        refine z_il2 eX10_atWord_28 ?_
        refine z_al1 eX10_atWord_29 (by omega) ?_
        refine z_txl eX10_atWord_30 vX10_43 rfl rfl (Nat.le_of_ble_eq_true rfl) (Nat.le_of_ble_eq_true rfl) hS1 hS2 hn2 ?_
        first | rw [zWd_1, hX.pt] | rw [zWd_3] | rw [zWd_4] | skip
        refine z_icmp_ge (tgt := 63) eX10_atWord_33 rfl ⟨⟨by omega, by omega⟩, ⟨by omega, by omega⟩⟩ (fun h33 => (by exfalso; omega)) (fun h33 => ?_)
        refine z_al0 eX10_atWord_36 hne ?_
        first | refine z_td0 (j := 1) lX10_15 eX10_atWord_37 rfl hT hA (by decide) rfl rfl rfl ?_ | refine z_td (j := 1) lX10_15 eX10_atWord_37 rfl hT hA ⟨by decide, by decide⟩ rfl rfl rfl ?_
        first | rw [zWd_1, hX.pt] | rw [zWd_3] | rw [zWd_4] | skip
        refine z_al0 eX10_atWord_40 hne ?_
        first | refine z_tg0 (j := 3) lX10_37 eX10_atWord_41 rfl hT hA (by decide) rfl rfl rfl ?_ | refine z_tg (j := 3) lX10_37 eX10_atWord_41 rfl hT hA ⟨by decide, by decide⟩ rfl rfl rfl ?_
        first | rw [zWd_1, hX.pt] | rw [zWd_3] | rw [zWd_4] | skip
        refine z_il2 eX10_atWord_44 ?_
        refine z_iadd eX10_atWord_45 ?_
        refine z_tl eX10_atWord_46 hT TpAt ⟨by decide, by decide⟩ rfl rfl ⟨by omega, by omega⟩ ?_
        rw [zWd_o hnw, hX.tx (b + i) (by omega) (by omega)]
        first | rw [zWd_1, hX.pt] | rw [zWd_3] | rw [zWd_4] | skip
        refine z_al1 eX10_atWord_47 (by omega) ?_
        refine z_il2 eX10_atWord_48 ?_
        refine z_chr eX10_atWord_49 vX10_48 rfl rfl (Nat.le_of_ble_eq_true rfl) (Nat.le_of_ble_eq_true rfl) hS1 hS2 hn2.2 ⟨by omega, by omega⟩ (by rw [c1]; exact ⟨c2, c3⟩) ?_
        first | rw [zWd_1, hX.pt] | rw [zWd_3] | rw [zWd_4] | skip
        rw [c1]
        refine z_icmp_eq (tgt := 57) eX10_atWord_52 rfl ⟨⟨by omega, by omega⟩, ⟨by omega, by omega⟩⟩ (fun h52 => ?_) (fun h52 => ?_)
        · refine z_ii2 eX10_atWord_57 (Nat.ne_of_beq_eq_false rfl) ?_
          refine z_goto eX10_atWord_60 (tgt := 28) rfl ?_
          refine ih (fun j hj2 => ?_)
          by_cases hji : (j : Int) = i
          · rw [hji, show j = i.toNat by omega]; exact h52
          · exact hj j (by omega)
        · refine z_iconst eX10_atWord_55 ?_
          refine z_zreturn eX10_atWord_56 rfl (by first | exact Or.inl rfl | exact Or.inr rfl | exact zbi_01 _ | assumption | omega) ?_
          have hh : ¬ qhas T e b wd := fun z => h52 (by have := z.2 i.toNat (by omega); rwa [Int.toNat_of_nonneg h0] at this)
          rw [zbi_f hh]; exact ⟨rfl, rfl, rfl, rfl⟩
    refine z_al0 eX10_atWord_0 hne ?_
    first | refine z_tg0 (j := 5) lX10_40 eX10_atWord_1 rfl hT hA (by decide) rfl rfl rfl ?_ | refine z_tg (j := 5) lX10_40 eX10_atWord_1 rfl hT hA ⟨by decide, by decide⟩ rfl rfl rfl ?_
    first | rw [zWd_3] | rw [zWd_4] | rw [zWd_5] | skip
    refine z_iconst eX10_atWord_4 ?_
    refine z_icmp_ne (tgt := 24) eX10_atWord_5 rfl ⟨⟨by omega, by omega⟩, ⟨by omega, by omega⟩⟩ (fun h5 => (by exfalso; omega)) (fun h5 => ?_)
    refine z_al0 eX10_atWord_8 hne ?_
    first | refine z_tg0 (j := 4) lX10_31 eX10_atWord_9 rfl hT hA (by decide) rfl rfl rfl ?_ | refine z_tg (j := 4) lX10_31 eX10_atWord_9 rfl hT hA ⟨by decide, by decide⟩ rfl rfl rfl ?_
    first | rw [zWd_3] | rw [zWd_4] | rw [zWd_5] | skip
    refine z_al0 eX10_atWord_12 hne ?_
    first | refine z_tg0 (j := 3) lX10_37 eX10_atWord_13 rfl hT hA (by decide) rfl rfl rfl ?_ | refine z_tg (j := 3) lX10_37 eX10_atWord_13 rfl hT hA ⟨by decide, by decide⟩ rfl rfl rfl ?_
    first | rw [zWd_3] | rw [zWd_4] | rw [zWd_5] | skip
    refine z_isub eX10_atWord_16 ?_
    refine z_al1 eX10_atWord_17 (by omega) ?_
    refine z_txl eX10_atWord_18 vX10_43 rfl rfl (Nat.le_of_ble_eq_true rfl) (Nat.le_of_ble_eq_true rfl) hS1 hS2 hn2 ?_
    first | rw [zWd_3] | rw [zWd_4] | rw [zWd_5] | skip
    refine z_icmp_eq (tgt := 26) eX10_atWord_21 rfl ⟨⟨by omega, by omega⟩, ⟨by omega, by omega⟩⟩ (fun h21 => ?_) (fun h21 => ?_)
    · refine z_iconst eX10_atWord_26 ?_
      refine z_is2 eX10_atWord_27 (Nat.ne_of_beq_eq_false rfl) ?_
      exact hl 0 (by decide) (by omega) (by omega) (fun j hj => absurd hj (by omega))
    · refine z_iconst eX10_atWord_24 ?_
      refine z_zreturn eX10_atWord_25 rfl (by first | exact Or.inl rfl | exact Or.inr rfl | exact zbi_01 _ | assumption | omega) ?_
      have hh : ¬ qhas T e b wd := fun z => absurd z.1 (by omega)
      rw [zbi_f hh]; exact ⟨rfl, rfl, rfl, rfl⟩
  · have hno : ¬ qhas T e b wd := by
      intro z
      have z1 := z.1
      refine hk9 (hk1.mpr ?_)
      by_cases c : b < e
      · refine ⟨c, ?_⟩
        by_cases c2 : qlet (T b) = true
        · exact c2
        · rw [qscan_f c c2] at z1; omega
      · rw [qscan_ge (by omega)] at z1; omega
    refine z_al0 eX10_atWord_0 hne ?_
    first | refine z_tg0 (j := 5) lX10_40 eX10_atWord_1 rfl hT hA (by decide) rfl rfl rfl ?_ | refine z_tg (j := 5) lX10_40 eX10_atWord_1 rfl hT hA ⟨by decide, by decide⟩ rfl rfl rfl ?_
    first | rw [zWd_3] | rw [zWd_4] | rw [zWd_5] | skip
    refine z_iconst eX10_atWord_4 ?_
    refine z_icmp_ne (tgt := 24) eX10_atWord_5 rfl ⟨⟨by omega, by omega⟩, ⟨by omega, by omega⟩⟩ (fun h5 => ?_) (fun h5 => (by exfalso; omega))
    refine z_iconst eX10_atWord_24 ?_
    refine z_zreturn eX10_atWord_25 rfl (by first | exact Or.inl rfl | exact Or.inr rfl | exact zbi_01 _ | assumption | omega) ?_
    rw [zbi_f hno]; exact ⟨rfl, rfl, rfl, rfl⟩
