/-! A coast is read. -/
theorem zset_eq {C : zMem} {o j v : Int} : zset C o j v o j = v := if_pos ⟨rfl, rfl⟩
theorem qBeg_9 {σ : zMem} : qBeg σ 0 9 = -1 := by simp [qBeg, zset_at]
theorem qBeg_10 {σ : zMem} : qBeg σ 0 10 = σ 0 8 := by simp [qBeg, zset_at]
theorem qBeg_11 {σ : zMem} : qBeg σ 0 11 = 0 := by simp [qBeg, zset_at]
theorem qBeg_12 {σ : zMem} : qBeg σ 0 12 = -1 := by simp [qBeg, zset_at]
theorem qBeg_o {σ : zMem} {o : Int} (h : o ≠ 0) : qBeg σ o = σ o := by funext j; simp [qBeg, zset_at, h]
/-- the text that was fed: octets -/
def zTape (σ : zMem) : Prop := (0 ≤ σ 0 8 ∧ σ 0 8 ≤ 400) ∧ ∀ k, 0 ≤ k → k < 400 → 0 ≤ σ 5 k ∧ σ 5 k ≤ 255
theorem qBeg_rT {σ : zMem} : rT (qBeg σ) = σ 5 := by unfold rT; rw [qBeg_9, if_pos rfl, qBeg_o (by decide)]
theorem qBeg_T {σ : zMem} (h : zTape σ) : TxI (qBeg σ) := by
  unfold TxI
  rw [qBeg_9, qBeg_10, qBeg_rT]
  exact ⟨Or.inl rfl, h.1.1, h.1.2, h.2⟩
theorem qBeg_p {σ : zMem} : qBeg σ = pS (zM (qBeg σ) (σ 1)) 0 (-1) := by
  have e : σ 1 = qBeg σ 1 := (qBeg_o (by decide)).symm
  rw [e, zM_self]
  have := pS_self (σ := qBeg σ)
  rw [qBeg_11, qBeg_12] at this
  exact this.symm
/-- what reading the coast throws -/
def qCoastT (r : Int × qLn) : Int := if r.2.2.2 = -1 then (if r.2.1 0 = 12 then 2 else 0) else 1
/-- the numbers once the coast is read -/
def qCoastR (σ : zMem) (r : Int × qLn) : zMem := zset (pS (zM (qBeg (zRow σ 3 (qcopy (σ 1) (σ 3) 426))) r.2.1) r.2.2.1 r.2.2.2) 0 0 (qCoastT r)
def qCoastS (σ : zMem) (r : Int × qLn) : zMem :=
  if 0 < qCoastT r then zRow (qCoastR σ r) 1 (qcopy (qCoastR σ r 3) (qCoastR σ r 1) 426) else zset (zset (qCoastR σ r) 1 0 (r.2.1 0 + 1)) 0 6 0
theorem qReadN_bd {T : Int → Int} {e : Int} (he : e ≤ 400) (hT : ∀ k, 0 ≤ k → k < 400 → 0 ≤ T k) : ∀ (k : Nat) (n : Int) (M : Int → Int) (a : Int), zOK M → 0 ≤ a → a ≤ e → zOK (qReadN T e k n M a).2.1 ∧ qAt e (qReadN T e k n M a).2.2.1 (qReadN T e k n M a).2.2.2 := by
  intro k
  induction k with
  | zero => intro n M a h h0 h1; exact ⟨h, h0, h1, by show (-1 : Int) ≤ -1; decide, by show (-1 : Int) ≤ 400; decide⟩
  | succ k ih =>
    intro n M a h h0 h1
    have hb := qskip_bd (T := T) h1
    unfold qReadN
    dsimp only
    generalize qscan qbl T e a = b at hb ⊢
    have hL := qCoastLine_ok (T := T) (e := e) (a := b) h ⟨by omega, hb.2⟩ he hT
    generalize qCoastLine T e M b = L at hL ⊢
    obtain ⟨L0, L1, L2, L3, L4⟩ := hL
    have hc := qskip_bd (T := T) L2
    generalize qscan qbl T e L.2.1 = c at hc ⊢
    split
    · exact ⟨h, by dsimp only [qAt]; omega⟩
    · split
      · split
        · exact ih (n + 1) L.1 (c + 1) L0 (by omega) (by omega)
        · exact ⟨L0, by dsimp only [qAt]; omega⟩
      · exact ⟨L0, by dsimp only [qAt]; omega⟩
theorem qRead_bd {T : Int → Int} {e : Int} (he : e ≤ 400) (hT : ∀ k, 0 ≤ k → k < 400 → 0 ≤ T k) {M : Int → Int} {a : Int} (h : zOK M) (h0 : 0 ≤ a) (h1 : a ≤ e) : zOK (qRead T e M a).2.1 ∧ qAt e (qRead T e M a).2.2.1 (qRead T e M a).2.2.2 := by
  have hb := qskip_bd (T := T) h1
  unfold qRead
  split
  · exact qReadN_bd he hT 15 0 M _ h (by omega) hb.2
  · exact ⟨h, by dsimp only [qAt]; omega⟩
theorem m_X12_coast {G : zG} {lay : zLay} {σ C0 : zMem} {nx x : Int} (hR : RefL lay x) (hS : TxS lay C0) (hT : zTape σ) (hM : zOK (σ 1)) : zMM G 64 KX12_coast [zP x] lay (rC x σ C0) nx (0, 0) (zR (some (zI (if 0 < qCoastT (qRead (σ 5) (σ 0 8) (σ 1) 0) then 0 else (qRead (σ 5) (σ 0 8) (σ 1) 0).2.1 0 + 1))) lay (rC x (qCoastS σ (qRead (σ 5) (σ 0 8) (σ 1) 0)) C0) nx) := by
  refine z_met' (L := [zP x, zU]) gX12_coast.1 rfl rfl (Nat.le_of_ble_eq_true rfl) rfl ?_
  have hT1 : zTape (zRow σ 3 (qcopy (σ 1) (σ 3) 426)) := by
    unfold zTape
    rw [zRow_o (by decide), zRow_o (by decide)]
    exact hT
  have hT2 := qBeg_T hT1
  have hrd := p_X12_readC (G := G) (nx := nx) (M := σ 1) (a := 0) hR hS hT2 qBeg_9 hM (by rw [qBeg_10, zRow_o (by decide)]; exact ⟨Int.le_refl 0, hT.1.1⟩)
  rw [qBeg_10, qBeg_rT, zRow_o (by decide), zRow_o (by decide)] at hrd
  have hp : qBeg (zRow σ 3 (qcopy (σ 1) (σ 3) 426)) = pS (zM (qBeg (zRow σ 3 (qcopy (σ 1) (σ 3) 426))) (σ 1)) 0 (-1) := by
    have := qBeg_p (σ := zRow σ 3 (qcopy (σ 1) (σ 3) 426))
    rwa [zRow_o (o' := 1) (by decide)] at this
  rw [← hp] at hrd
  have hbd := qRead_bd (T := σ 5) (e := σ 0 8) hT.1.2 (fun k h0 h1 => (hT.2 k h0 h1).1) hM (a := 0) (by omega) hT.1.1
  generalize qRead (σ 5) (σ 0 8) (σ 1) 0 = r at hrd hbd ⊢
  obtain ⟨b1, b2, b3, b4, b5⟩ := hbd
  have h0 := b1.1.s 0 rfl (by omega)
  by_cases hf : r.2.2.2 = -1
  · by_cases h12 : r.2.1 0 = 12
    · have ht : qCoastT r = 2 := by unfold qCoastT; rw [if_pos hf, if_pos h12]
      unfold qCoastS
      rw [ht, if_pos (by decide), if_pos (by decide)]
      unfold qCoastR
      rw [ht]
      refine z_al0 eX12_coast_0 hR.ne ?_
      refine z_V0v eX12_coast_1 vX12_200 rfl rfl (Nat.le_of_ble_eq_true rfl) (Nat.le_of_ble_eq_true rfl) hR.x (m_X12_putsAside hR) ?_
      refine z_al0 eX12_coast_4 hR.ne ?_
      refine z_V0v eX12_coast_5 vX12_203 rfl rfl (Nat.le_of_ble_eq_true rfl) (Nat.le_of_ble_eq_true rfl) hR.x (m_X12_begins hR) ?_
      refine z_al0 eX12_coast_8 hR.ne ?_
      refine z_iconst eX12_coast_9 ?_
      refine z_V1 eX12_coast_10 vX12_206 rfl rfl (Nat.le_of_ble_eq_true rfl) (Nat.le_of_ble_eq_true rfl) hR.x (hrd ) ?_
      refine z_is1 eX12_coast_13 (Nat.ne_of_beq_eq_false rfl) ?_
      refine z_al0 eX12_coast_14 hR.ne ?_
      refine z_al0 eX12_coast_15 hR.ne ?_
      refine z_rg (j := 12) lX12_25 eX12_coast_16 rfl hR rfl rfl ?_
      rw [pS_12]
      refine z_iconst eX12_coast_19 ?_
      refine z_icmp_eq (tgt := 27) eX12_coast_20 rfl ⟨⟨by omega, by omega⟩, ⟨by omega, by omega⟩⟩ (fun h20 => ?_) (fun h20 => (by exfalso; omega))
      refine z_al0 eX12_coast_27 hR.ne ?_
      refine z_ra lX12_7 eX12_coast_28 rfl hR rfl ?_
      refine z_iconst eX12_coast_31 ?_
      refine z_rl eX12_coast_32 hR (by decide) rfl rfl ⟨by omega, by omega⟩ ?_
      rw [pS_1M]
      refine z_bipush eX12_coast_33 (by decide) ?_
      refine z_icmp_ne (tgt := 42) eX12_coast_35 rfl ⟨⟨by omega, by omega⟩, ⟨by omega, by omega⟩⟩ (fun h35 => (by exfalso; omega)) (fun h35 => ?_)
      refine z_iconst eX12_coast_38 ?_
      refine z_goto eX12_coast_39 (tgt := 43) rfl ?_
      refine z_rp (j := 0) lX12_48 eX12_coast_43 rfl hR rfl rfl ?_
      refine z_al0 eX12_coast_46 hR.ne ?_
      refine z_rg (j := 0) lX12_48 eX12_coast_47 rfl hR rfl rfl ?_
      rw [zset_eq]
      refine z_if_le (tgt := 59) eX12_coast_50 rfl ⟨by omega, by omega⟩ (fun h50 => (by exfalso; omega)) (fun h50 => ?_)
      refine z_al0 eX12_coast_53 hR.ne ?_
      refine z_V0v eX12_coast_54 vX12_210 rfl rfl (Nat.le_of_ble_eq_true rfl) (Nat.le_of_ble_eq_true rfl) hR.x (m_X12_comesBack hR) ?_
      refine z_iconst eX12_coast_57 ?_
      refine z_ireturn eX12_coast_58 rfl ?_
      first | exact ⟨rfl, rfl, rfl, rfl⟩ | exact zRb1 (by omega) | exact zRb0 (by omega) | exact zRe (by omega)
    · have ht : qCoastT r = 0 := by unfold qCoastT; rw [if_pos hf, if_neg h12]
      unfold qCoastS
      rw [ht, if_neg (by decide), if_neg (by decide)]
      unfold qCoastR
      rw [ht]
      refine z_al0 eX12_coast_0 hR.ne ?_
      refine z_V0v eX12_coast_1 vX12_200 rfl rfl (Nat.le_of_ble_eq_true rfl) (Nat.le_of_ble_eq_true rfl) hR.x (m_X12_putsAside hR) ?_
      refine z_al0 eX12_coast_4 hR.ne ?_
      refine z_V0v eX12_coast_5 vX12_203 rfl rfl (Nat.le_of_ble_eq_true rfl) (Nat.le_of_ble_eq_true rfl) hR.x (m_X12_begins hR) ?_
      refine z_al0 eX12_coast_8 hR.ne ?_
      refine z_iconst eX12_coast_9 ?_
      refine z_V1 eX12_coast_10 vX12_206 rfl rfl (Nat.le_of_ble_eq_true rfl) (Nat.le_of_ble_eq_true rfl) hR.x (hrd ) ?_
      refine z_is1 eX12_coast_13 (Nat.ne_of_beq_eq_false rfl) ?_
      refine z_al0 eX12_coast_14 hR.ne ?_
      refine z_al0 eX12_coast_15 hR.ne ?_
      refine z_rg (j := 12) lX12_25 eX12_coast_16 rfl hR rfl rfl ?_
      rw [pS_12]
      refine z_iconst eX12_coast_19 ?_
      refine z_icmp_eq (tgt := 27) eX12_coast_20 rfl ⟨⟨by omega, by omega⟩, ⟨by omega, by omega⟩⟩ (fun h20 => ?_) (fun h20 => (by exfalso; omega))
      refine z_al0 eX12_coast_27 hR.ne ?_
      refine z_ra lX12_7 eX12_coast_28 rfl hR rfl ?_
      refine z_iconst eX12_coast_31 ?_
      refine z_rl eX12_coast_32 hR (by decide) rfl rfl ⟨by omega, by omega⟩ ?_
      rw [pS_1M]
      refine z_bipush eX12_coast_33 (by decide) ?_
      refine z_icmp_ne (tgt := 42) eX12_coast_35 rfl ⟨⟨by omega, by omega⟩, ⟨by omega, by omega⟩⟩ (fun h35 => ?_) (fun h35 => (by exfalso; omega))
      refine z_iconst eX12_coast_42 ?_
      refine z_rp (j := 0) lX12_48 eX12_coast_43 rfl hR rfl rfl ?_
      refine z_al0 eX12_coast_46 hR.ne ?_
      refine z_rg (j := 0) lX12_48 eX12_coast_47 rfl hR rfl rfl ?_
      rw [zset_eq]
      refine z_if_le (tgt := 59) eX12_coast_50 rfl ⟨by omega, by omega⟩ (fun h50 => ?_) (fun h50 => (by exfalso; omega))
      refine z_al0 eX12_coast_59 hR.ne ?_
      refine z_ra lX12_7 eX12_coast_60 rfl hR rfl ?_
      refine z_iconst eX12_coast_63 ?_
      refine z_dup2 eX12_coast_64 (Nat.ne_of_beq_eq_false rfl) (Nat.ne_of_beq_eq_false rfl) ?_
      refine z_rl eX12_coast_65 hR (by decide) rfl rfl ⟨by omega, by omega⟩ ?_
      rw [zset_o (by decide), pS_1M]
      refine z_iconst eX12_coast_66 ?_
      refine z_iadd eX12_coast_67 ?_
      refine z_rs eX12_coast_68 hR (by decide) rfl rfl ⟨by omega, by omega⟩ ?_
      refine z_al0 eX12_coast_69 hR.ne ?_
      refine z_iconst eX12_coast_70 ?_
      refine z_rp (j := 6) lX12_213 eX12_coast_71 rfl hR rfl rfl ?_
      refine z_al0 eX12_coast_74 hR.ne ?_
      refine z_ra lX12_7 eX12_coast_75 rfl hR rfl ?_
      refine z_iconst eX12_coast_78 ?_
      refine z_rl eX12_coast_79 hR (by decide) rfl rfl ⟨by omega, by omega⟩ ?_
      rw [zset_o (by decide), zset_eq]
      refine z_ireturn eX12_coast_80 rfl ?_
      first | exact ⟨rfl, rfl, rfl, rfl⟩ | exact zRb1 (by omega) | exact zRb0 (by omega) | exact zRe (by omega)
  · have ht : qCoastT r = 1 := by unfold qCoastT; rw [if_neg hf]
    unfold qCoastS
    rw [ht, if_pos (by decide), if_pos (by decide)]
    unfold qCoastR
    rw [ht]
    refine z_al0 eX12_coast_0 hR.ne ?_
    refine z_V0v eX12_coast_1 vX12_200 rfl rfl (Nat.le_of_ble_eq_true rfl) (Nat.le_of_ble_eq_true rfl) hR.x (m_X12_putsAside hR) ?_
    refine z_al0 eX12_coast_4 hR.ne ?_
    refine z_V0v eX12_coast_5 vX12_203 rfl rfl (Nat.le_of_ble_eq_true rfl) (Nat.le_of_ble_eq_true rfl) hR.x (m_X12_begins hR) ?_
    refine z_al0 eX12_coast_8 hR.ne ?_
    refine z_iconst eX12_coast_9 ?_
    refine z_V1 eX12_coast_10 vX12_206 rfl rfl (Nat.le_of_ble_eq_true rfl) (Nat.le_of_ble_eq_true rfl) hR.x (hrd ) ?_
    refine z_is1 eX12_coast_13 (Nat.ne_of_beq_eq_false rfl) ?_
    refine z_al0 eX12_coast_14 hR.ne ?_
    refine z_al0 eX12_coast_15 hR.ne ?_
    refine z_rg (j := 12) lX12_25 eX12_coast_16 rfl hR rfl rfl ?_
    rw [pS_12]
    refine z_iconst eX12_coast_19 ?_
    refine z_icmp_eq (tgt := 27) eX12_coast_20 rfl ⟨⟨by omega, by omega⟩, ⟨by omega, by omega⟩⟩ (fun h20 => (by exfalso; omega)) (fun h20 => ?_)
    refine z_iconst eX12_coast_23 ?_
    refine z_goto eX12_coast_24 (tgt := 43) rfl ?_
    refine z_rp (j := 0) lX12_48 eX12_coast_43 rfl hR rfl rfl ?_
    refine z_al0 eX12_coast_46 hR.ne ?_
    refine z_rg (j := 0) lX12_48 eX12_coast_47 rfl hR rfl rfl ?_
    rw [zset_eq]
    refine z_if_le (tgt := 59) eX12_coast_50 rfl ⟨by omega, by omega⟩ (fun h50 => (by exfalso; omega)) (fun h50 => ?_)
    refine z_al0 eX12_coast_53 hR.ne ?_
    refine z_V0v eX12_coast_54 vX12_210 rfl rfl (Nat.le_of_ble_eq_true rfl) (Nat.le_of_ble_eq_true rfl) hR.x (m_X12_comesBack hR) ?_
    refine z_iconst eX12_coast_57 ?_
    refine z_ireturn eX12_coast_58 rfl ?_
    first | exact ⟨rfl, rfl, rfl, rfl⟩ | exact zRb1 (by omega) | exact zRb0 (by omega) | exact zRe (by omega)
