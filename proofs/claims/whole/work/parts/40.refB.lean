/-! A reading begins; the row put aside. -/
/-- the reading of a new text begins -/
def qBeg (σ : zMem) : zMem := zset (zset (zset (zset (zset (zset σ 0 12 (-1)) 0 9 (-1)) 0 10 (σ 0 8)) 0 8 0) 0 11 0) 0 13 0
theorem m_X12_begins {G : zG} {lay : zLay} {σ C0 : zMem} {nx x : Int} (hR : RefL lay x) : zMM G 1 KX12_begins [zP x] lay (rC x σ C0) nx (0, 0) (zR none lay (rC x (qBeg σ) C0) nx) := by
  refine z_met' (L := [zP x]) gX12_begins.1 rfl rfl (Nat.le_of_ble_eq_true rfl) rfl ?_
  have e8 : (zset (zset σ 0 12 (-1)) 0 9 (-1)) 0 8 = σ 0 8 := by simp [zset_at]
  refine z_al0 eX12_begins_0 hR.ne ?_
  refine z_iconst eX12_begins_1 ?_
  refine z_rp (j := 12) lX12_25 eX12_begins_2 rfl hR rfl rfl ?_
  refine z_al0 eX12_begins_5 hR.ne ?_
  refine z_iconst eX12_begins_6 ?_
  refine z_rp (j := 9) lX12_68 eX12_begins_7 rfl hR rfl rfl ?_
  refine z_al0 eX12_begins_10 hR.ne ?_
  refine z_al0 eX12_begins_11 hR.ne ?_
  refine z_rg (j := 8) lX12_65 eX12_begins_12 rfl hR rfl rfl ?_
  rw [e8]
  refine z_rp (j := 10) lX12_74 eX12_begins_15 rfl hR rfl rfl ?_
  refine z_al0 eX12_begins_18 hR.ne ?_
  refine z_iconst eX12_begins_19 ?_
  refine z_rp (j := 8) lX12_65 eX12_begins_20 rfl hR rfl rfl ?_
  refine z_al0 eX12_begins_23 hR.ne ?_
  refine z_iconst eX12_begins_24 ?_
  refine z_rp (j := 11) lX12_71 eX12_begins_25 rfl hR rfl rfl ?_
  refine z_al0 eX12_begins_28 hR.ne ?_
  refine z_iconst eX12_begins_29 ?_
  refine z_rp (j := 13) lX12_187 eX12_begins_30 rfl hR rfl rfl ?_
  refine z_return eX12_begins_33 rfl ?_
  exact ⟨rfl, rfl, rfl, rfl⟩
/-- the first n numbers of a row, from another -/
def qcopy (A B : Int → Int) (n : Int) : Int → Int := fun j => if 0 ≤ j ∧ j < n then A j else B j
theorem qcopy_s (A B : Int → Int) {n : Int} (h : 0 ≤ n) : zput (qcopy A B n) n (A n) = qcopy A B (n + 1) := by
  funext j
  unfold qcopy zput
  by_cases hj : j = n
  · rw [if_pos hj, if_pos (by omega), hj]
  · rw [if_neg hj]
    dsimp only
    by_cases h2 : 0 ≤ j ∧ j < n
    · rw [if_pos h2, if_pos (by omega)]
    · rw [if_neg h2, if_neg (by omega)]
theorem qcopy_0 (A B : Int → Int) : qcopy A B 0 = B := by
  funext j
  exact if_neg (by omega)
/-- row o of the numbers is A -/
def zRow (σ : zMem) (o : Int) (A : Int → Int) : zMem := fun o' => if o' = o then A else σ o'
theorem zRow_o {σ : zMem} {o o' : Int} {A : Int → Int} (h : o' ≠ o) : zRow σ o A o' = σ o' := if_neg h
theorem zRow_e {σ : zMem} {o : Int} {A : Int → Int} : zRow σ o A o = A := if_pos rfl
theorem zRow_self {σ : zMem} {o : Int} : zRow σ o (σ o) = σ := by
  funext o'
  unfold zRow
  split
  · rename_i h; rw [h]
  · rfl
theorem zRow_put {σ : zMem} {o j v : Int} {A : Int → Int} : zset (zRow σ o A) o j v = zRow σ o (zput A j v) := by
  funext o' j'
  unfold zset zRow zput
  by_cases h : o' = o
  · simp [h]
  · simp [h]
theorem zRow_zM {σ : zMem} {A : Int → Int} : zRow σ 1 A = zM σ A := rfl
theorem m_X12_putsAside {G : zG} {lay : zLay} {σ C0 : zMem} {nx x : Int} (hR : RefL lay x) : zMM G 1 KX12_putsAside [zP x] lay (rC x σ C0) nx (0, 0) (zR none lay (rC x (zRow σ 3 (qcopy (σ 1) (σ 3) 426)) C0) nx) := by
  refine z_met' (L := [zP x, zU]) gX12_putsAside.1 rfl rfl (Nat.le_of_ble_eq_true rfl) rfl ?_
  have hl : ∀ n : Int, 0 ≤ n → n ≤ 426 → zW G KX12_putsAside 1 (zR none lay (rC x (zRow σ 3 (qcopy (σ 1) (σ 3) 426)) C0) nx) 2 [zP x, zI n] [] lay (rC x (zRow σ 3 (qcopy (σ 1) (σ 3) n)) C0) nx (0, 0) := by
    refine z_up 426 ?_ ?_
    · skip
      refine z_il1 eX12_putsAside_2 ?_
      refine z_sipush eX12_putsAside_3 (by decide) ?_
      refine z_icmp_ge (tgt := 27) eX12_putsAside_6 rfl ⟨⟨by omega, by omega⟩, ⟨by omega, by omega⟩⟩ (fun h6 => ?_) (fun h6 => (by exfalso; omega))
      refine z_return eX12_putsAside_27 rfl ?_
      exact ⟨rfl, rfl, rfl, rfl⟩
    · intro n h0 h1 ih
      refine z_il1 eX12_putsAside_2 ?_
      refine z_sipush eX12_putsAside_3 (by decide) ?_
      refine z_icmp_ge (tgt := 27) eX12_putsAside_6 rfl ⟨⟨by omega, by omega⟩, ⟨by omega, by omega⟩⟩ (fun h6 => (by exfalso; omega)) (fun h6 => ?_)
      refine z_al0 eX12_putsAside_9 hR.ne ?_
      refine z_ra lX12_16 eX12_putsAside_10 rfl hR rfl ?_
      refine z_il1 eX12_putsAside_13 ?_
      refine z_al0 eX12_putsAside_14 hR.ne ?_
      refine z_ra lX12_7 eX12_putsAside_15 rfl hR rfl ?_
      refine z_il1 eX12_putsAside_18 ?_
      refine z_rl eX12_putsAside_19 hR (by decide) rfl rfl ⟨by omega, by omega⟩ ?_
      rw [zRow_o (by decide)]
      refine z_rs eX12_putsAside_20 hR (by decide) rfl rfl ⟨by omega, by omega⟩ ?_
      rw [zRow_put, qcopy_s _ _ h0]
      refine z_ii1 eX12_putsAside_21 (Nat.ne_of_beq_eq_false rfl) ?_
      refine z_goto eX12_putsAside_24 (tgt := 2) rfl ?_
      exact ih
  have h0 := hl 0 (by omega) (by omega)
  rw [qcopy_0, zRow_self] at h0
  refine z_iconst eX12_putsAside_0 ?_
  refine z_is1 eX12_putsAside_1 (Nat.ne_of_beq_eq_false rfl) ?_
  exact h0
theorem m_X12_comesBack {G : zG} {lay : zLay} {σ C0 : zMem} {nx x : Int} (hR : RefL lay x) : zMM G 1 KX12_comesBack [zP x] lay (rC x σ C0) nx (0, 0) (zR none lay (rC x (zRow σ 1 (qcopy (σ 3) (σ 1) 426)) C0) nx) := by
  refine z_met' (L := [zP x, zU]) gX12_comesBack.1 rfl rfl (Nat.le_of_ble_eq_true rfl) rfl ?_
  have hl : ∀ n : Int, 0 ≤ n → n ≤ 426 → zW G KX12_comesBack 1 (zR none lay (rC x (zRow σ 1 (qcopy (σ 3) (σ 1) 426)) C0) nx) 2 [zP x, zI n] [] lay (rC x (zRow σ 1 (qcopy (σ 3) (σ 1) n)) C0) nx (0, 0) := by
    refine z_up 426 ?_ ?_
    · skip
      refine z_il1 eX12_comesBack_2 ?_
      refine z_sipush eX12_comesBack_3 (by decide) ?_
      refine z_icmp_ge (tgt := 27) eX12_comesBack_6 rfl ⟨⟨by omega, by omega⟩, ⟨by omega, by omega⟩⟩ (fun h6 => ?_) (fun h6 => (by exfalso; omega))
      refine z_return eX12_comesBack_27 rfl ?_
      exact ⟨rfl, rfl, rfl, rfl⟩
    · intro n h0 h1 ih
      refine z_il1 eX12_comesBack_2 ?_
      refine z_sipush eX12_comesBack_3 (by decide) ?_
      refine z_icmp_ge (tgt := 27) eX12_comesBack_6 rfl ⟨⟨by omega, by omega⟩, ⟨by omega, by omega⟩⟩ (fun h6 => (by exfalso; omega)) (fun h6 => ?_)
      refine z_al0 eX12_comesBack_9 hR.ne ?_
      refine z_ra lX12_7 eX12_comesBack_10 rfl hR rfl ?_
      refine z_il1 eX12_comesBack_13 ?_
      refine z_al0 eX12_comesBack_14 hR.ne ?_
      refine z_ra lX12_16 eX12_comesBack_15 rfl hR rfl ?_
      refine z_il1 eX12_comesBack_18 ?_
      refine z_rl eX12_comesBack_19 hR (by decide) rfl rfl ⟨by omega, by omega⟩ ?_
      rw [zRow_o (by decide)]
      refine z_rs eX12_comesBack_20 hR (by decide) rfl rfl ⟨by omega, by omega⟩ ?_
      rw [zRow_put, qcopy_s _ _ h0]
      refine z_ii1 eX12_comesBack_21 (Nat.ne_of_beq_eq_false rfl) ?_
      refine z_goto eX12_comesBack_24 (tgt := 2) rfl ?_
      exact ih
  have h0 := hl 0 (by omega) (by omega)
  rw [qcopy_0, zRow_self] at h0
  refine z_iconst eX12_comesBack_0 ?_
  refine z_is1 eX12_comesBack_1 (Nat.ne_of_beq_eq_false rfl) ?_
  exact h0
