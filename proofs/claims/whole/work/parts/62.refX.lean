/-! A law is read. -/
/-- e letters of T put to the row's end -/
def qTx (e : Int) (T M : Int → Int) : Int → Int := fun j => if 426 ≤ j ∧ j < 426 + e then T (j - 426) else M j
theorem qTx_0 (T M : Int → Int) : qTx 0 T M = M := by funext j; unfold qTx; rw [if_neg (by omega)]
theorem qTx_s (T M : Int → Int) {e : Int} (h : 0 ≤ e) : zput (qTx e T M) (426 + e) (T e) = qTx (e + 1) T M := by
  funext j
  unfold zput qTx
  by_cases hj : j = 426 + e
  · rw [if_pos hj, if_pos (by omega), hj, show (426 : Int) + e - 426 = e by omega]
  · rw [if_neg hj]
    by_cases h2 : 426 ≤ j ∧ j < 426 + e
    · rw [if_pos h2, if_pos (by omega)]
    · rw [if_neg h2, if_neg (by omega)]
theorem zset_f2 {C : zMem} {o j v o2 j2 : Int} (h : o2 ≠ o) : zset C o j v o2 j2 = C o2 j2 := by rw [zset_o h]
/-- what reading the law leaves: the numbers read with, then the row -/
noncomputable def qLawR (σ : zMem) : Int × (Int × Int × Int) × Int × Int := qLaw (σ 5) (σ 0 8) (qAtom (σ 5) (σ 0 8) (σ 6) (σ 0 15) (σ 0 16) 6) (σ 0 17, σ 0 18, σ 0 19) 0
noncomputable def qLawS (σ : zMem) (n f : Int) : zMem :=
  if f = -1 then zset (zRow (zset (pS (zLw (qBeg σ) (qLawR σ).2.1) (qLawR σ).2.2.1 f) 0 0 0) 1 (qTx (σ 0 8) (σ 5) (zput (zput (σ 1) 1 n) 2 (σ 0 8)))) 0 6 0 else zset (pS (zLw (qBeg σ) (qLawR σ).2.1) (qLawR σ).2.2.1 f) 0 0 1
theorem qBeg_f {σ : zMem} {j : Int} (h : j < 8 ∨ 13 < j) : qBeg σ 0 j = σ 0 j := by
  unfold qBeg
  rw [zset_f (by omega), zset_f (by omega), zset_f (by omega), zset_f (by omega), zset_f (by omega), zset_f (by omega)]
theorem qBeg_13 {σ : zMem} : qBeg σ 0 13 = 0 := zset_eq
theorem qBeg_L {σ : zMem} (hT : zTape σ) (hJ : zJs σ) : LwH (qBeg σ) := by
  refine ⟨qBeg_T hT, ?_, ?_, ?_⟩
  · rw [qBeg_o (by decide)]; exact hJ.1
  · rw [qBeg_f (by omega)]; exact hJ.2.1
  · rw [qBeg_f (by omega)]; exact hJ.2.2.1
theorem qLawR_P {σ : zMem} : (qLawR σ).1 = (qLawP (σ 5) (σ 0 8)).1 ∧ (qLawR σ).2.2.2 = (qLawP (σ 5) (σ 0 8)).2 := by
  have h := qLaw_i (T := σ 5) (e := σ 0 8) (A := qAtom (σ 5) (σ 0 8) (σ 6) (σ 0 15) (σ 0 16) 6) (A' := qAtom (σ 5) (σ 0 8) (fun _ => 0) 0 0 6) (fun a => qAtom_i _ _ _ _ _ _ _ _) (σ 0 17, σ 0 18, σ 0 19) (0, 0, 0) 0
  exact ⟨h.1, congrArg (fun q => q.2) h.2⟩
theorem qLawP_bd {T : Int → Int} {e : Int} (h0 : 0 ≤ e) (he : e ≤ 400) (hT : ∀ k, 0 ≤ k → k < 400 → 0 ≤ T k) : (0 ≤ (qLawP T e).1 ∧ (qLawP T e).1 ≤ 13) ∧ (-1 ≤ (qLawP T e).2 ∧ (qLawP T e).2 ≤ 400) ∧ ((qLawP T e).2 = -1 → (qLawP T e).1 ≤ 12) := by
  have h := qLaw_bd (T := T) (e := e) (a := 0) (W := (0, 0, 0)) (A := qAtom T e (fun _ => 0) 0 0 6) (qAtom_bd (fun _ _ _ => ⟨by decide, by decide⟩) (Or.inl rfl) (Or.inl rfl) he hT 6) he hT (by decide) h0 rfl
  refine ⟨h.1, h.2.2.1, fun z => ?_⟩
  have h1 := h.1
  have h2 := h.2.2.2
  unfold qLawP at z ⊢
  dsimp only at z ⊢
  generalize (qLaw T e (qAtom T e (fun _ => 0) 0 0 6) (0, 0, 0) 0).1 = n at h1 h2 ⊢
  by_cases hn : n = 13
  · exact absurd z (h2 hn)
  · omega
theorem m_X12_law {G : zG} {lay : zLay} {σ C0 : zMem} {nx x : Int} (hR : RefL lay x) (hS : TxS lay C0) (hT : zTape σ) (hJ : zJs σ) : zMM G 65 KX12_law [zP x] lay (rC x σ C0) nx (0, 0) (zR (some (zI (if (qLawP (σ 5) (σ 0 8)).2 = -1 then (qLawP (σ 5) (σ 0 8)).1 else 0))) lay (rC x (qLawS σ (qLawP (σ 5) (σ 0 8)).1 (qLawP (σ 5) (σ 0 8)).2) C0) nx) := by
  refine z_met' (L := [zP x, zU, zU]) gX12_law.1 rfl rfl (Nat.le_of_ble_eq_true rfl) rfl ?_
  have hT2 := qBeg_T hT
  have hW : qW01 (σ 0 17, σ 0 18, σ 0 19) := ⟨hJ.2.2.2.1, hJ.2.2.2.2⟩
  have hrd := p_X12_readL (G := G) (nx := nx) (W := (σ 0 17, σ 0 18, σ 0 19)) (a := 0) hR hS (qBeg_L hT hJ) qBeg_13 hW (by rw [qBeg_10]; exact ⟨Int.le_refl 0, hT.1.1⟩)
  have e1 : zLw (qBeg σ) (σ 0 17, σ 0 18, σ 0 19) = qBeg σ := by
    have := zLw_0 (σ := qBeg σ)
    rwa [qBeg_f (by omega), qBeg_f (by omega), qBeg_f (by omega)] at this
  have e2 : pS (qBeg σ) 0 (-1) = qBeg σ := by
    have := pS_self (σ := qBeg σ)
    rwa [qBeg_11, qBeg_12] at this
  unfold qA6 at hrd
  rw [qBeg_10, qBeg_rT, qBeg_o (by decide), qBeg_f (by omega), qBeg_f (by omega), e1, e2] at hrd
  have hP := qLawR_P (σ := σ)
  have hbd := qLawP_bd (T := σ 5) (e := σ 0 8) hT.1.1 hT.1.2 (fun k h0 h1 => (hT.2 k h0 h1).1)
  unfold qLawS
  unfold qLawR at hP ⊢
  generalize qLaw (σ 5) (σ 0 8) (qAtom (σ 5) (σ 0 8) (σ 6) (σ 0 15) (σ 0 16) 6) (σ 0 17, σ 0 18, σ 0 19) 0 = r at hrd hP ⊢
  rw [hP.1, hP.2] at hrd
  generalize qLawP (σ 5) (σ 0 8) = P at hrd hbd ⊢
  by_cases hf : P.2 = -1
  · rw [if_pos hf, if_pos hf]
    obtain ⟨S, hSS, s10, s5, s1⟩ : ∃ S, zset (pS (zLw (qBeg σ) r.2.1) r.2.2.1 P.2) 0 0 0 = S ∧ S 0 10 = σ 0 8 ∧ S 5 = σ 5 ∧ S 1 = σ 1 := by
      refine ⟨_, rfl, ?_, ?_, ?_⟩
      · rw [zset_f (by decide), pS_10, zLw_f (by decide), qBeg_10]
      · rw [zset_o (by decide), pS_o (by decide), zLw_o (by decide), qBeg_o (by decide)]
      · rw [zset_o (by decide), pS_o (by decide), zLw_o (by decide), qBeg_o (by decide)]
    rw [hSS]
    have h8 := hT.1
    have hl : ∀ n : Int, 0 ≤ n → n ≤ σ 0 8 → zW G KX12_law 65 (zR (some (zI P.1)) lay (rC x (zset (zRow S 1 (qTx (σ 0 8) (σ 5) (zput (zput (σ 1) 1 P.1) 2 (σ 0 8)))) 0 6 0) C0) nx) 55 [zP x, zI P.1, zI n] [] lay (rC x (zRow S 1 (qTx n (σ 5) (zput (zput (σ 1) 1 P.1) 2 (σ 0 8)))) C0) nx (0, 0) := by
      refine z_up (σ 0 8) ?_ ?_
      · skip
        refine z_il2 eX12_law_55 ?_
        refine z_al0 eX12_law_56 hR.ne ?_
        refine z_rg (j := 10) lX12_74 eX12_law_57 rfl hR rfl rfl ?_
        rw [zRow_o (by decide), s10]
        refine z_icmp_ge (tgt := 85) eX12_law_60 rfl ⟨⟨by omega, by omega⟩, ⟨by omega, by omega⟩⟩ (fun h60 => ?_) (fun h60 => (by exfalso; omega))
        refine z_al0 eX12_law_85 hR.ne ?_
        refine z_iconst eX12_law_86 ?_
        refine z_rp (j := 6) lX12_213 eX12_law_87 rfl hR rfl rfl ?_
        refine z_il1 eX12_law_90 ?_
        refine z_ireturn eX12_law_91 rfl ?_
        first | exact ⟨rfl, rfl, rfl, rfl⟩ | exact zRb1 (by omega) | exact zRb0 (by omega) | exact zRe (by omega)
      · intro n h0 h1 ih
        refine z_il2 eX12_law_55 ?_
        refine z_al0 eX12_law_56 hR.ne ?_
        refine z_rg (j := 10) lX12_74 eX12_law_57 rfl hR rfl rfl ?_
        rw [zRow_o (by decide), s10]
        refine z_icmp_ge (tgt := 85) eX12_law_60 rfl ⟨⟨by omega, by omega⟩, ⟨by omega, by omega⟩⟩ (fun h60 => (by exfalso; omega)) (fun h60 => ?_)
        refine z_al0 eX12_law_63 hR.ne ?_
        refine z_ra lX12_7 eX12_law_64 rfl hR rfl ?_
        refine z_sipush eX12_law_67 (by decide) ?_
        refine z_il2 eX12_law_70 ?_
        refine z_iadd eX12_law_71 ?_
        refine z_al0 eX12_law_72 hR.ne ?_
        refine z_ra lX12_22 eX12_law_73 rfl hR rfl ?_
        refine z_il2 eX12_law_76 ?_
        refine z_rl eX12_law_77 hR (by decide) rfl rfl ⟨by omega, by omega⟩ ?_
        rw [zRow_o (by decide), s5]
        refine z_rs eX12_law_78 hR (by decide) rfl rfl ⟨by omega, by omega⟩ ?_
        rw [zRow_put, qTx_s _ _ h0]
        refine z_ii2 eX12_law_79 (Nat.ne_of_beq_eq_false rfl) ?_
        refine z_goto eX12_law_82 (tgt := 55) rfl ?_
        exact ih
    have h0 := hl 0 (by omega) (by omega)
    rw [qTx_0] at h0
    have e9 : zset (zset S 1 1 P.1) 1 2 (σ 0 8) = zRow S 1 (zput (zput (σ 1) 1 P.1) 2 (σ 0 8)) := by
      rw [← s1, ← zRow_put, ← zRow_put, zRow_self]
    refine z_al0 eX12_law_0 hR.ne ?_
    refine z_V0v eX12_law_1 vX12_203 rfl rfl (Nat.le_of_ble_eq_true rfl) (Nat.le_of_ble_eq_true rfl) hR.x (m_X12_begins hR) ?_
    refine z_al0 eX12_law_4 hR.ne ?_
    refine z_iconst eX12_law_5 ?_
    refine z_V1 eX12_law_6 vX12_206 rfl rfl (Nat.le_of_ble_eq_true rfl) (Nat.le_of_ble_eq_true rfl) hR.x (hrd ) ?_
    refine z_is1 eX12_law_9 (Nat.ne_of_beq_eq_false rfl) ?_
    refine z_al0 eX12_law_10 hR.ne ?_
    refine z_al0 eX12_law_11 hR.ne ?_
    refine z_rg (j := 12) lX12_25 eX12_law_12 rfl hR rfl rfl ?_
    rw [pS_12]
    refine z_iconst eX12_law_15 ?_
    refine z_icmp_eq (tgt := 23) eX12_law_16 rfl ⟨⟨by omega, by omega⟩, ⟨by omega, by omega⟩⟩ (fun h16 => ?_) (fun h16 => (by exfalso; omega))
    refine z_iconst eX12_law_23 ?_
    refine z_rp (j := 0) lX12_48 eX12_law_24 rfl hR rfl rfl ?_
    rw [hSS]
    refine z_al0 eX12_law_27 hR.ne ?_
    refine z_rg (j := 0) lX12_48 eX12_law_28 rfl hR rfl rfl ?_
    rw [← hSS, zset_eq, hSS]
    refine z_if_le (tgt := 36) eX12_law_31 rfl ⟨by omega, by omega⟩ (fun h31 => ?_) (fun h31 => (by exfalso; omega))
    refine z_al0 eX12_law_36 hR.ne ?_
    refine z_ra lX12_7 eX12_law_37 rfl hR rfl ?_
    refine z_iconst eX12_law_40 ?_
    refine z_il1 eX12_law_41 ?_
    refine z_rs eX12_law_42 hR (by decide) rfl rfl ⟨by omega, by omega⟩ ?_
    refine z_al0 eX12_law_43 hR.ne ?_
    refine z_ra lX12_7 eX12_law_44 rfl hR rfl ?_
    refine z_iconst eX12_law_47 ?_
    refine z_al0 eX12_law_48 hR.ne ?_
    refine z_rg (j := 10) lX12_74 eX12_law_49 rfl hR rfl rfl ?_
    rw [zset_f2 (by decide), s10]
    refine z_rs eX12_law_52 hR (by decide) rfl rfl ⟨by omega, by omega⟩ ?_
    rw [e9]
    refine z_iconst eX12_law_53 ?_
    refine z_is2 eX12_law_54 (Nat.ne_of_beq_eq_false rfl) ?_
    exact h0
  · rw [if_neg hf, if_neg hf]
    refine z_al0 eX12_law_0 hR.ne ?_
    refine z_V0v eX12_law_1 vX12_203 rfl rfl (Nat.le_of_ble_eq_true rfl) (Nat.le_of_ble_eq_true rfl) hR.x (m_X12_begins hR) ?_
    refine z_al0 eX12_law_4 hR.ne ?_
    refine z_iconst eX12_law_5 ?_
    refine z_V1 eX12_law_6 vX12_206 rfl rfl (Nat.le_of_ble_eq_true rfl) (Nat.le_of_ble_eq_true rfl) hR.x (hrd ) ?_
    refine z_is1 eX12_law_9 (Nat.ne_of_beq_eq_false rfl) ?_
    refine z_al0 eX12_law_10 hR.ne ?_
    refine z_al0 eX12_law_11 hR.ne ?_
    refine z_rg (j := 12) lX12_25 eX12_law_12 rfl hR rfl rfl ?_
    rw [pS_12]
    refine z_iconst eX12_law_15 ?_
    refine z_icmp_eq (tgt := 23) eX12_law_16 rfl ⟨⟨by omega, by omega⟩, ⟨by omega, by omega⟩⟩ (fun h16 => (by exfalso; omega)) (fun h16 => ?_)
    refine z_iconst eX12_law_19 ?_
    refine z_goto eX12_law_20 (tgt := 24) rfl ?_
    refine z_rp (j := 0) lX12_48 eX12_law_24 rfl hR rfl rfl ?_
    refine z_al0 eX12_law_27 hR.ne ?_
    refine z_rg (j := 0) lX12_48 eX12_law_28 rfl hR rfl rfl ?_
    rw [zset_eq]
    refine z_if_le (tgt := 36) eX12_law_31 rfl ⟨by omega, by omega⟩ (fun h31 => (by exfalso; omega)) (fun h31 => ?_)
    refine z_iconst eX12_law_34 ?_
    refine z_ireturn eX12_law_35 rfl ?_
    first | exact ⟨rfl, rfl, rfl, rfl⟩ | exact zRb1 (by omega) | exact zRb0 (by omega) | exact zRe (by omega)
