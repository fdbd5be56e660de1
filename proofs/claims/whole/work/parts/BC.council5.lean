/-! How a motion goes. -/
theorem CoN.o17 {σ s : zMem} {b : Int} {M : Int → Int} (h : CoN σ b M) (ho : zOut (b + 17) 1 σ s) : CoN s b M := h.out (fun i i0 i1 _ _ => ho _ (by omega))
theorem zOut.cell {b : Int} {σ s : zMem} (h : zOut (b + 17) 1 σ s) : s b = σ b := h b (by omega)
theorem CoL.cg' {lay : zLay} {x : Int} {C0 C : zMem} {p : Int} {M : Int → Int} (h : CoL lay x C0 p M) (e : zStk C0 p C) : CoL lay x C p M := h.cg e.same
theorem c_X1_lapsesIn {G : zG} {lay : zLay} {σ C0 : zMem} {nx x b : Int} (hT : TopL lay x) {k s h : Int} {M : Int → Int} (hA : CoAt b) (hN : CoN σ b M) (hL : CoL lay x C0 (σ b 10) M) (hM : zOC M) (hs : 0 ≤ s ∧ s < 5) (hk : 0 ≤ k ∧ k < M 4) (hh : 0 ≤ h ∧ h < 12) : zMM G 4 KX1_lapsesIn [zP (x + b), zI k, zI s, zI h] lay (tC x σ C0) nx (0, 0) (zY' (some (zI (qLapse M k s h))) (fun q C => zOut (b + 17) 1 σ q ∧ zStk C0 (σ b 10) C) lay nx x) := by
  refine z_met' (L := [zP (x + b), zI k, zI s, zI h]) gX1_lapsesIn.1 rfl rfl (Nat.le_of_ble_eq_true rfl) rfl ?_
  have hb0 := hA.b0 (by decide)
  have hx := hT.1
  have hne : x + b ≠ -1 := by omega
  have hI := hM.I
  have hm3 := hI.m3
  have hm4 := hI.m4
  have hV := hI.V (k := k) ⟨hk.1, by omega⟩
  have hmv := hM.mv k hk.1 hk.2
  have hmo := hN.mo.2.1 k hk.1 hk.2
  rcases hL with ⟨h1, hL⟩ | ⟨h1, n, hL⟩
  · have hq : qLapse M k s h = if s = 0 then 1 else 0 := by
      unfold qLapse qAsk
      rw [if_pos (show M 1 < 1 by omega)]
      rfl
    rw [hq]
    refine z_al0 eX1_lapsesIn_0 hne ?_
    first | refine z_td0 (j := 10) lX1_81 eX1_lapsesIn_1 rfl hT hA (by decide) rfl rfl rfl ?_ | refine z_td (j := 10) lX1_81 eX1_lapsesIn_1 rfl hT hA ⟨by decide, by decide⟩ rfl rfl rfl ?_
    rw [hL]
    refine z_ifnull (tgt := 18) eX1_lapsesIn_4 rfl (fun h4 => ?_) (fun h4 => (by exfalso; omega))
    refine z_il2 eX1_lapsesIn_18 ?_
    refine z_if_ne (tgt := 26) eX1_lapsesIn_19 rfl ⟨by omega, by omega⟩ (fun h19 => ?_) (fun h19 => ?_)
    · refine z_iconst eX1_lapsesIn_26 ?_
      refine z_zreturn eX1_lapsesIn_27 rfl (by first | exact Or.inl rfl | exact Or.inr rfl | exact zbi_01 _ | assumption | omega) ?_
      first | exact zYe ⟨zOut.refl _ _ _, zStk.refl _ _⟩ (by rw [if_pos (by omega)]) | exact zYe ⟨zOut.refl _ _ _, zStk.refl _ _⟩ (by rw [if_neg (by omega)]) | fail
    · refine z_iconst eX1_lapsesIn_22 ?_
      refine z_goto eX1_lapsesIn_23 (tgt := 27) rfl ?_
      refine z_zreturn eX1_lapsesIn_27 rfl (by first | exact Or.inl rfl | exact Or.inr rfl | exact zbi_01 _ | assumption | omega) ?_
      first | exact zYe ⟨zOut.refl _ _ _, zStk.refl _ _⟩ (by rw [if_pos (by omega)]) | exact zYe ⟨zOut.refl _ _ _, zStk.refl _ _⟩ (by rw [if_neg (by omega)]) | fail
  · have hLA := hL.A
    have hp0 := hLA.p0
    generalize hw : σ b 10 = w at hL hLA hp0 ⊢
    obtain ⟨V0, _, v0⟩ := qAsk_law hL hM.ol h1 (p := M (74 + 5 * k + 0)) (s := s) (k := k) (h := h) ⟨hV.1.1, by omega⟩ hs ⟨by omega, by omega⟩ hh (fun j _ _ => rfl)
    have hq0 : ¬ (∃ i, (0 ≤ i ∧ i < C0 w 0) ∧ C0 (w + 1) i = 2) → qLapse M k s h = if s = 0 then 1 else 0 := by
      intro z
      unfold qLapse
      rw [v0]
      dsimp only
      rw [zbi_f z, if_pos rfl]
    have hq1 : (∃ i, (0 ≤ i ∧ i < C0 w 0) ∧ C0 (w + 1) i = 2) → qLapse M k s h = (qAsk M (M (74 + 5 * k + 0)) s k h).2.2 := by
      intro z
      unfold qLapse
      rw [if_neg]
      rw [v0]
      dsimp only
      rw [zbi_t z]
      decide
    have hkd : ∀ i, 0 ≤ i → i < C0 w 0 → zin (C0 (w + 1) i) := fun i i0 i1 => by have := hL.B.2 i i0 i1; exact ⟨by omega, by omega⟩
    refine z_al0 eX1_lapsesIn_0 hne ?_
    first | refine z_td0 (j := 10) lX1_81 eX1_lapsesIn_1 rfl hT hA (by decide) rfl rfl rfl ?_ | refine z_td (j := 10) lX1_81 eX1_lapsesIn_1 rfl hT hA ⟨by decide, by decide⟩ rfl rfl rfl ?_
    rw [hw]
    refine z_ifnull (tgt := 18) eX1_lapsesIn_4 rfl (fun h4 => (by exfalso; omega)) (fun h4 => ?_)
    refine z_al0 eX1_lapsesIn_7 hne ?_
    first | refine z_td0 (j := 10) lX1_81 eX1_lapsesIn_8 rfl hT hA (by decide) rfl rfl rfl ?_ | refine z_td (j := 10) lX1_81 eX1_lapsesIn_8 rfl hT hA ⟨by decide, by decide⟩ rfl rfl rfl ?_
    rw [hw]
    refine z_iconst eX1_lapsesIn_11 ?_
    refine z_V1 eX1_lapsesIn_12 vX1_135 rfl rfl (Nat.le_of_ble_eq_true rfl) (Nat.le_of_ble_eq_true rfl) hLA.l0 (c_X3_hasKind hT hLA hL.F hL.B.1 (by decide) hkd) ?_
    refine z_ifb_ne (tgt := 28) eX1_lapsesIn_15 rfl (fun h15 => ?_) (fun h15 => ?_)
    · refine z_al0 eX1_lapsesIn_28 hne ?_
      refine z_al0 eX1_lapsesIn_29 hne ?_
      first | refine z_ta0 lX1_47 eX1_lapsesIn_30 rfl hT hA (by decide) rfl rfl ?_ | refine z_ta lX1_47 eX1_lapsesIn_30 rfl hT hA ⟨by decide, by decide⟩ rfl rfl ?_
      first | refine z_ta0 lX1_116 eX1_lapsesIn_33 rfl hT hA.mo (by decide) rfl rfl ?_ | refine z_ta lX1_116 eX1_lapsesIn_33 rfl hT hA.mo ⟨by decide, by decide⟩ rfl rfl ?_
      refine z_il1 eX1_lapsesIn_36 ?_
      refine z_tl eX1_lapsesIn_37 hT hA.mo ⟨by decide, by decide⟩ rfl rfl ⟨by omega, by omega⟩ ?_
      rw [hmo.1]
      refine z_il2 eX1_lapsesIn_38 ?_
      refine z_il1 eX1_lapsesIn_39 ?_
      refine z_il3 eX1_lapsesIn_40 ?_
      refine z_V4vz eX1_lapsesIn_41 vX1_119 rfl rfl (Nat.le_of_ble_eq_true rfl) (Nat.le_of_ble_eq_true rfl) ((hA).L0 hT (by decide)) (c_X1_fillFacts hT hA hN hI ⟨hV.1.1, hmv⟩ hs (Or.inr hk) hh) (fun s41 hs41 => ?_)
      obtain ⟨V, v1, v2⟩ := qAsk_law hL hM.ol h1 ⟨hV.1.1, by omega⟩ hs ⟨by omega, by omega⟩ hh hs41.2
      have hq2 := hq1 h15
      rw [v2] at hq2
      have b2 := qSumL_bd (k := 2) (V := V) hL.B ⟨hL.B.1.1, Int.le_refl _⟩
      have b3 := hL.B.1
      refine z_al0 eX1_lapsesIn_44 hne ?_
      first | refine z_td0 (j := 10) lX1_81 eX1_lapsesIn_45 rfl hT hA (by decide) rfl rfl rfl ?_ | refine z_td (j := 10) lX1_81 eX1_lapsesIn_45 rfl hT hA ⟨by decide, by decide⟩ rfl rfl rfl ?_
      rw [hs41.1 b (by omega), hw]
      refine z_iconst eX1_lapsesIn_48 ?_
      refine z_al0 eX1_lapsesIn_49 hne ?_
      first | refine z_ta0 lX1_60 eX1_lapsesIn_50 rfl hT hA (by decide) rfl rfl ?_ | refine z_ta lX1_60 eX1_lapsesIn_50 rfl hT hA ⟨by decide, by decide⟩ rfl rfl ?_
      refine z_V2y eX1_lapsesIn_53 vX1_123 rfl rfl (Nat.le_of_ble_eq_true rfl) (Nat.le_of_ble_eq_true rfl) hLA.l0 (c_X3_sumOf hT hA hLA hL.F hL.B v1 (by decide)) (fun s53 C53 hs53 => ?_)
      obtain ⟨q1, q2⟩ := hs53
      subst q1
      refine z_if_le (tgt := 63) eX1_lapsesIn_56 rfl ⟨by omega, by omega⟩ (fun h56 => ?_) (fun h56 => ?_)
      · refine z_iconst eX1_lapsesIn_63 ?_
        refine z_zreturn eX1_lapsesIn_64 rfl (by first | exact Or.inl rfl | exact Or.inr rfl | exact zbi_01 _ | assumption | omega) ?_
        first | exact zYe ⟨zOut.refl _ _ _, zStk.refl _ _⟩ (by rw [hq0 h15, if_pos (by omega)]) | exact zYe ⟨zOut.refl _ _ _, zStk.refl _ _⟩ (by rw [hq0 h15, if_neg (by omega)]) | exact zYe ⟨hs41.1, q2⟩ (by rw [hq2]; exact (zbi_t (by omega)).symm) | exact zYe ⟨hs41.1, q2⟩ (by rw [hq2]; exact (zbi_f (by omega)).symm) | fail
      · refine z_iconst eX1_lapsesIn_59 ?_
        refine z_goto eX1_lapsesIn_60 (tgt := 64) rfl ?_
        refine z_zreturn eX1_lapsesIn_64 rfl (by first | exact Or.inl rfl | exact Or.inr rfl | exact zbi_01 _ | assumption | omega) ?_
        first | exact zYe ⟨zOut.refl _ _ _, zStk.refl _ _⟩ (by rw [hq0 h15, if_pos (by omega)]) | exact zYe ⟨zOut.refl _ _ _, zStk.refl _ _⟩ (by rw [hq0 h15, if_neg (by omega)]) | exact zYe ⟨hs41.1, q2⟩ (by rw [hq2]; exact (zbi_t (by omega)).symm) | exact zYe ⟨hs41.1, q2⟩ (by rw [hq2]; exact (zbi_f (by omega)).symm) | fail
    · refine z_il2 eX1_lapsesIn_18 ?_
      refine z_if_ne (tgt := 26) eX1_lapsesIn_19 rfl ⟨by omega, by omega⟩ (fun h19 => ?_) (fun h19 => ?_)
      · refine z_iconst eX1_lapsesIn_26 ?_
        refine z_zreturn eX1_lapsesIn_27 rfl (by first | exact Or.inl rfl | exact Or.inr rfl | exact zbi_01 _ | assumption | omega) ?_
        first | exact zYe ⟨zOut.refl _ _ _, zStk.refl _ _⟩ (by rw [hq0 h15, if_pos (by omega)]) | exact zYe ⟨zOut.refl _ _ _, zStk.refl _ _⟩ (by rw [hq0 h15, if_neg (by omega)]) | exact zYe ⟨hs41.1, q2⟩ (by rw [hq2]; exact (zbi_t (by omega)).symm) | exact zYe ⟨hs41.1, q2⟩ (by rw [hq2]; exact (zbi_f (by omega)).symm) | fail
      · refine z_iconst eX1_lapsesIn_22 ?_
        refine z_goto eX1_lapsesIn_23 (tgt := 27) rfl ?_
        refine z_zreturn eX1_lapsesIn_27 rfl (by first | exact Or.inl rfl | exact Or.inr rfl | exact zbi_01 _ | assumption | omega) ?_
        first | exact zYe ⟨zOut.refl _ _ _, zStk.refl _ _⟩ (by rw [hq0 h15, if_pos (by omega)]) | exact zYe ⟨zOut.refl _ _ _, zStk.refl _ _⟩ (by rw [hq0 h15, if_neg (by omega)]) | exact zYe ⟨hs41.1, q2⟩ (by rw [hq2]; exact (zbi_t (by omega)).symm) | exact zYe ⟨hs41.1, q2⟩ (by rw [hq2]; exact (zbi_f (by omega)).symm) | fail
noncomputable def qGoO (M : Int → Int) (k s h O Fo : Int) : Int := if qLapse M k s h = 1 then 3 else if qbits O < M 8 then 2 else qVoteO M (if M 9 ≤ qFeltO M (M (74 + 5 * k + 0)) s k h O then 1 else 0) s O Fo
theorem c_X1_outcome {G : zG} {lay : zLay} {σ C0 : zMem} {nx x b : Int} (hT : TopL lay x) {k s h O Fo : Int} {M : Int → Int} (hA : CoAt b) (hN : CoN σ b M) (hL : CoL lay x C0 (σ b 10) M) (hM : zOC M) (hs : 0 ≤ s ∧ s < 5) (hk : 0 ≤ k ∧ k < M 4) (hh : 0 ≤ h ∧ h < 12) (hO : 0 ≤ O ∧ O < 256) : zMM G 5 KX1_outcome [zP (x + b), zI k, zI s, zI h, zI O, zI Fo] lay (tC x σ C0) nx (0, 0) (zY' (some (zI (qGoO M k s h O Fo))) (fun q C => zOut (b + 17) 1 σ q ∧ zStk C0 (σ b 10) C) lay nx x) := by
  refine z_met' (L := [zP (x + b), zI k, zI s, zI h, zI O, zI Fo, zU]) gX1_outcome.1 rfl rfl (Nat.le_of_ble_eq_true rfl) rfl ?_
  have hb0 := hA.b0 (by decide)
  have hx := hT.1
  have hne : x + b ≠ -1 := by omega
  have hI := hM.I
  have hm3 := hI.m3
  have hm4 := hI.m4
  have hV := hI.V (k := k) ⟨hk.1, by omega⟩
  have hmv := hM.mv k hk.1 hk.2
  have hmo := hN.mo.2.1 k hk.1 hk.2
  have hl01 := qLapse_01 hM.ol (k := k) ⟨hk.1, by omega⟩ hs hh
  have h8 := hI.s 8 rfl (by omega)
  have h9 := hI.s 9 rfl (by omega)
  have hqb := qbits_bd O
  have hf := qFeltO_bd M (M (74 + 5 * k + 0)) s k h O
  unfold qGoO
  refine z_al0 eX1_outcome_0 hne ?_
  refine z_il1 eX1_outcome_1 ?_
  refine z_il2 eX1_outcome_2 ?_
  refine z_il3 eX1_outcome_3 ?_
  refine z_V3y eX1_outcome_4 vX1_138 rfl rfl (Nat.le_of_ble_eq_true rfl) (Nat.le_of_ble_eq_true rfl) ((hA).L0 hT (by decide)) (c_X1_lapsesIn hT hA hN hL hM hs hk hh) (fun s4 C4 hs4 => ?_)
  have hN4 := hN.o17 hs4.1
  have hL4 : CoL lay x C4 (s4 b 10) M := by rw [hs4.1.cell]; exact hL.cg' hs4.2
  refine z_if_eq (tgt := 12) eX1_outcome_7 rfl ⟨by omega, by omega⟩ (fun h7 => ?_) (fun h7 => ?_)
  · refine z_il4 eX1_outcome_12 ?_
    refine z_S1 eX1_outcome_14 vX1_142 rfl rfl (Nat.le_of_ble_eq_true rfl) (Nat.le_of_ble_eq_true rfl) (c_J6_bitCount_0f7a4 hO) ?_
    refine z_al0 eX1_outcome_17 hne ?_
    first | refine z_tg0 (j := 7) lX1_27 eX1_outcome_18 rfl hT hA (by decide) rfl rfl rfl ?_ | refine z_tg (j := 7) lX1_27 eX1_outcome_18 rfl hT hA ⟨by decide, by decide⟩ rfl rfl rfl ?_
    rw [hN4.n8]
    refine z_icmp_ge (tgt := 26) eX1_outcome_21 rfl ⟨⟨by omega, by omega⟩, ⟨by omega, by omega⟩⟩ (fun h21 => ?_) (fun h21 => ?_)
    · refine z_al0 eX1_outcome_26 hne ?_
      refine z_al0 eX1_outcome_27 hne ?_
      first | refine z_ta0 lX1_47 eX1_outcome_28 rfl hT hA (by decide) rfl rfl ?_ | refine z_ta lX1_47 eX1_outcome_28 rfl hT hA ⟨by decide, by decide⟩ rfl rfl ?_
      first | refine z_ta0 lX1_116 eX1_outcome_31 rfl hT hA.mo (by decide) rfl rfl ?_ | refine z_ta lX1_116 eX1_outcome_31 rfl hT hA.mo ⟨by decide, by decide⟩ rfl rfl ?_
      refine z_il1 eX1_outcome_34 ?_
      refine z_tl eX1_outcome_35 hT hA.mo ⟨by decide, by decide⟩ rfl rfl ⟨by omega, by omega⟩ ?_
      rw [(hN4.mo.2.1 k hk.1 hk.2).1]
      refine z_il2 eX1_outcome_36 ?_
      refine z_il1 eX1_outcome_37 ?_
      refine z_il3 eX1_outcome_38 ?_
      refine z_il4 eX1_outcome_39 ?_
      refine z_V5y eX1_outcome_41 vX1_147 rfl rfl (Nat.le_of_ble_eq_true rfl) (Nat.le_of_ble_eq_true rfl) ((hA).L0 hT (by decide)) (c_X1_feels hT hA hN4 hL4 hM.ol ⟨hV.1.1, hmv⟩ hs (Or.inr hk) hh) (fun s41 C41 hs41 => ?_)
      have hN41 := hN4.o17 hs41.1
      refine z_al0 eX1_outcome_44 hne ?_
      first | refine z_tg0 (j := 8) lX1_31 eX1_outcome_45 rfl hT hA (by decide) rfl rfl rfl ?_ | refine z_tg (j := 8) lX1_31 eX1_outcome_45 rfl hT hA ⟨by decide, by decide⟩ rfl rfl rfl ?_
      rw [hN41.n9]
      refine z_icmp_lt (tgt := 55) eX1_outcome_48 rfl ⟨⟨by omega, by omega⟩, ⟨by omega, by omega⟩⟩ (fun h48 => ?_) (fun h48 => ?_)
      · refine z_iconst eX1_outcome_55 ?_
        refine z_is6 eX1_outcome_56 (Nat.ne_of_beq_eq_false rfl) ?_
        refine z_al0 eX1_outcome_58 hne ?_
        refine z_il6 eX1_outcome_59 ?_
        refine z_il2 eX1_outcome_61 ?_
        refine z_il4 eX1_outcome_62 ?_
        refine z_il5 eX1_outcome_64 ?_
        refine z_V4 eX1_outcome_66 vX1_151 rfl rfl (Nat.le_of_ble_eq_true rfl) (Nat.le_of_ble_eq_true rfl) ((hA).L0 hT (by decide)) (c_X1_byVotes hT hA hN41 hI (by first | exact Or.inl rfl | exact Or.inr rfl) hs) ?_
        refine z_ireturn eX1_outcome_69 rfl ?_
        refine zYe ⟨hs4.1.trans hs41.1, hs4.2.trans (by have := hs41.2; rwa [hs4.1.cell] at this)⟩ ?_
        rw [if_neg (by omega), if_neg (by omega)]
        first | rw [if_pos (by omega)] | rw [if_neg (by omega)]
      · refine z_iconst eX1_outcome_51 ?_
        refine z_goto eX1_outcome_52 (tgt := 56) rfl ?_
        refine z_is6 eX1_outcome_56 (Nat.ne_of_beq_eq_false rfl) ?_
        refine z_al0 eX1_outcome_58 hne ?_
        refine z_il6 eX1_outcome_59 ?_
        refine z_il2 eX1_outcome_61 ?_
        refine z_il4 eX1_outcome_62 ?_
        refine z_il5 eX1_outcome_64 ?_
        refine z_V4 eX1_outcome_66 vX1_151 rfl rfl (Nat.le_of_ble_eq_true rfl) (Nat.le_of_ble_eq_true rfl) ((hA).L0 hT (by decide)) (c_X1_byVotes hT hA hN41 hI (by first | exact Or.inl rfl | exact Or.inr rfl) hs) ?_
        refine z_ireturn eX1_outcome_69 rfl ?_
        refine zYe ⟨hs4.1.trans hs41.1, hs4.2.trans (by have := hs41.2; rwa [hs4.1.cell] at this)⟩ ?_
        rw [if_neg (by omega), if_neg (by omega)]
        first | rw [if_pos (by omega)] | rw [if_neg (by omega)]
    · refine z_iconst eX1_outcome_24 ?_
      refine z_ireturn eX1_outcome_25 rfl ?_
      exact zYe hs4 (by rw [if_neg (by omega), if_pos (by omega)])
  · refine z_iconst eX1_outcome_10 ?_
    refine z_ireturn eX1_outcome_11 rfl ?_
    exact zYe hs4 (by rw [if_pos (by omega)])
theorem c_X1_outcomeIn {G : zG} {lay : zLay} {σ C0 : zMem} {nx x b : Int} (hT : TopL lay x) {k s h : Int} {M : Int → Int} (hA : CoAt b) (hN : CoN σ b M) (hL : CoL lay x C0 (σ b 10) M) (hM : zOC M) (hs : 0 ≤ s ∧ s < 5) (hk : 0 ≤ k ∧ k < M 4) (hh : 0 ≤ h ∧ h < 12) (hO : 0 ≤ qOuts M ∧ qOuts M < 256) : zMM G 6 KX1_outcomeIn [zP (x + b), zI k, zI s, zI h] lay (tC x σ C0) nx (0, 0) (zY' (some (zI (qGoO M k s h (qOuts M) (M (74 + 5 * k + 3))))) (fun q C => zOut (b + 17) 1 σ q ∧ zStk C0 (σ b 10) C) lay nx x) := by
  refine z_met' (L := [zP (x + b), zI k, zI s, zI h]) gX1_outcomeIn.1 rfl rfl (Nat.le_of_ble_eq_true rfl) rfl ?_
  have hb0 := hA.b0 (by decide)
  have hx := hT.1
  have hne : x + b ≠ -1 := by omega
  have hm4 := hM.I.m4
  refine z_al0 eX1_outcomeIn_0 hne ?_
  refine z_il1 eX1_outcomeIn_1 ?_
  refine z_il2 eX1_outcomeIn_2 ?_
  refine z_il3 eX1_outcomeIn_3 ?_
  refine z_al0 eX1_outcomeIn_4 hne ?_
  first | refine z_tg0 (j := 5) lX1_78 eX1_outcomeIn_5 rfl hT hA (by decide) rfl rfl rfl ?_ | refine z_tg (j := 5) lX1_78 eX1_outcomeIn_5 rfl hT hA ⟨by decide, by decide⟩ rfl rfl rfl ?_
  rw [hN.ou]
  refine z_al0 eX1_outcomeIn_8 hne ?_
  first | refine z_ta0 lX1_47 eX1_outcomeIn_9 rfl hT hA (by decide) rfl rfl ?_ | refine z_ta lX1_47 eX1_outcomeIn_9 rfl hT hA ⟨by decide, by decide⟩ rfl rfl ?_
  first | refine z_ta0 lX1_155 eX1_outcomeIn_12 rfl hT hA.mo (by decide) rfl rfl ?_ | refine z_ta lX1_155 eX1_outcomeIn_12 rfl hT hA.mo ⟨by decide, by decide⟩ rfl rfl ?_
  refine z_il1 eX1_outcomeIn_15 ?_
  refine z_tl eX1_outcomeIn_16 hT hA.mo ⟨by decide, by decide⟩ rfl rfl ⟨by omega, by omega⟩ ?_
  rw [(hN.mo.2.1 k hk.1 hk.2).2.2.2.1]
  refine z_V5y eX1_outcomeIn_17 vX1_158 rfl rfl (Nat.le_of_ble_eq_true rfl) (Nat.le_of_ble_eq_true rfl) ((hA).L0 hT (by decide)) (c_X1_outcome hT hA hN hL hM hs hk hh hO) (fun s17 C17 hs17 => ?_)
  refine z_ireturn eX1_outcomeIn_20 rfl ?_
  exact zYe hs17 rfl
