/-! All is remembered ahead of an act. -/
def qshift (A : Int → Int) (n : Int) : Int → Int := fun j => if 0 ≤ j ∧ j < n then A (j + 426) else A j
def qput (A M : Int → Int) (b n : Int) : Int → Int := fun j => if b ≤ j ∧ j < b + n then M (j - b) else A j
theorem qshift_s (A : Int → Int) {n : Int} (h : 0 ≤ n) : zput (qshift A n) n (qshift A n (n + 426)) = qshift A (n + 1) := by
  have e : qshift A n (n + 426) = A (n + 426) := if_neg (by omega)
  rw [e]
  funext j
  unfold qshift zput
  by_cases hj : j = n
  · rw [if_pos hj, if_pos (by omega), hj]
  · rw [if_neg hj]
    dsimp only
    by_cases h2 : 0 ≤ j ∧ j < n
    · rw [if_pos h2, if_pos (by omega)]
    · rw [if_neg h2, if_neg (by omega)]
theorem qput_s (A M : Int → Int) {b n : Int} (h : 0 ≤ n) : zput (qput A M b n) (b + n) (M n) = qput A M b (n + 1) := by
  funext j
  unfold qput zput
  by_cases hj : j = b + n
  · rw [if_pos hj, if_pos (by omega), show j - b = n by omega]
  · rw [if_neg hj]
    dsimp only
    by_cases h2 : b ≤ j ∧ j < b + n
    · rw [if_pos h2, if_pos (by omega)]
    · rw [if_neg h2, if_neg (by omega)]
theorem qshift_0 (A : Int → Int) : qshift A 0 = A := by funext j; exact if_neg (by omega)
theorem qput_0 (A M : Int → Int) (b : Int) : qput A M b 0 = A := by funext j; exact if_neg (by omega)
/-- the row is put behind those remembered -/
def qRem2 (τ : zMem) : zMem := zset (zRow τ 4 (qput (τ 4) (τ 1) (426 * τ 0 6) 426)) 0 6 (τ 0 6 + 1)
def qRem1 (σ : zMem) : zMem := if σ 0 6 = 12 then zset (zRow σ 4 (qshift (σ 4) 4686)) 0 6 (σ 0 6 - 1) else σ
def qRem (σ : zMem) : zMem := qRem2 (qRem1 σ)
theorem m_X12_rem2 {G : zG} {lay : zLay} {τ C0 : zMem} {nx x : Int} (hR : RefL lay x) (ha : 0 ≤ τ 0 6 ∧ τ 0 6 ≤ 11) : zW G KX12_remembers 1 (zR none lay (rC x (qRem2 τ) C0) nx) 52 [zP x, zI 0] [] lay (rC x τ C0) nx (0, 0) := by
  have hl : ∀ n : Int, 0 ≤ n → n ≤ 426 → zW G KX12_remembers 1 (zR none lay (rC x (qRem2 τ) C0) nx) 52 [zP x, zI n] [] lay (rC x (zRow τ 4 (qput (τ 4) (τ 1) (426 * τ 0 6) n)) C0) nx (0, 0) := by
    refine z_up 426 ?_ ?_
    · have e0 : zRow τ 4 (qput (τ 4) (τ 1) (426 * τ 0 6) 426) 0 6 = τ 0 6 := by rw [zRow_o (by decide)]
      refine z_il1 eX12_remembers_52 ?_
      refine z_sipush eX12_remembers_53 (by decide) ?_
      refine z_icmp_ge (tgt := 86) eX12_remembers_56 rfl ⟨⟨by omega, by omega⟩, ⟨by omega, by omega⟩⟩ (fun h56 => ?_) (fun h56 => (by exfalso; omega))
      refine z_al0 eX12_remembers_86 hR.ne ?_
      refine z_dup eX12_remembers_87 (Nat.ne_of_beq_eq_false rfl) ?_
      refine z_rg (j := 6) lX12_213 eX12_remembers_88 rfl hR rfl rfl ?_
      rw [e0]
      refine z_iconst eX12_remembers_91 ?_
      refine z_iadd eX12_remembers_92 ?_
      refine z_rp (j := 6) lX12_213 eX12_remembers_93 rfl hR rfl rfl ?_
      refine z_return eX12_remembers_96 rfl ?_
      exact ⟨rfl, rfl, rfl, rfl⟩
    · intro n h0 h1 ih
      have e0 : zRow τ 4 (qput (τ 4) (τ 1) (426 * τ 0 6) n) 0 6 = τ 0 6 := by rw [zRow_o (by decide)]
      refine z_il1 eX12_remembers_52 ?_
      refine z_sipush eX12_remembers_53 (by decide) ?_
      refine z_icmp_ge (tgt := 86) eX12_remembers_56 rfl ⟨⟨by omega, by omega⟩, ⟨by omega, by omega⟩⟩ (fun h56 => (by exfalso; omega)) (fun h56 => ?_)
      refine z_al0 eX12_remembers_59 hR.ne ?_
      refine z_ra lX12_19 eX12_remembers_60 rfl hR rfl ?_
      refine z_sipush eX12_remembers_63 (by decide) ?_
      refine z_al0 eX12_remembers_66 hR.ne ?_
      refine z_rg (j := 6) lX12_213 eX12_remembers_67 rfl hR rfl rfl ?_
      rw [e0]
      refine z_imul eX12_remembers_70 ?_
      refine z_il1 eX12_remembers_71 ?_
      refine z_iadd eX12_remembers_72 ?_
      refine z_al0 eX12_remembers_73 hR.ne ?_
      refine z_ra lX12_7 eX12_remembers_74 rfl hR rfl ?_
      refine z_il1 eX12_remembers_77 ?_
      refine z_rl eX12_remembers_78 hR (by decide) rfl rfl ⟨by omega, by omega⟩ ?_
      rw [zRow_o (by decide)]
      refine z_rs eX12_remembers_79 hR (by decide) rfl rfl ⟨by omega, by omega⟩ ?_
      rw [zRow_put, qput_s _ _ h0]
      refine z_ii1 eX12_remembers_80 (Nat.ne_of_beq_eq_false rfl) ?_
      refine z_goto eX12_remembers_83 (tgt := 52) rfl ?_
      exact ih
  have h0 := hl 0 (by omega) (by omega)
  rwa [qput_0, zRow_self] at h0
theorem m_X12_remembers {G : zG} {lay : zLay} {σ C0 : zMem} {nx x : Int} (hR : RefL lay x) (ha : 0 ≤ σ 0 6 ∧ σ 0 6 ≤ 12) : zMM G 1 KX12_remembers [zP x] lay (rC x σ C0) nx (0, 0) (zR none lay (rC x (qRem σ) C0) nx) := by
  refine z_met' (L := [zP x, zU]) gX12_remembers.1 rfl rfl (Nat.le_of_ble_eq_true rfl) rfl ?_
  unfold qRem qRem1
  by_cases h12 : σ 0 6 = 12
  · rw [if_pos h12]
    have hl : ∀ n : Int, 0 ≤ n → n ≤ 4686 → zW G KX12_remembers 1 (zR none lay (rC x (qRem2 (zset (zRow σ 4 (qshift (σ 4) 4686)) 0 6 (σ 0 6 - 1))) C0) nx) 11 [zP x, zI n] [] lay (rC x (zRow σ 4 (qshift (σ 4) n)) C0) nx (0, 0) := by
      refine z_up 4686 ?_ ?_
      · have e0 : zRow σ 4 (qshift (σ 4) 4686) 0 6 = σ 0 6 := by rw [zRow_o (by decide)]
        refine z_il1 eX12_remembers_11 ?_
        refine z_sipush eX12_remembers_12 (by decide) ?_
        refine z_icmp_ge (tgt := 40) eX12_remembers_15 rfl ⟨⟨by omega, by omega⟩, ⟨by omega, by omega⟩⟩ (fun h15 => ?_) (fun h15 => (by exfalso; omega))
        refine z_al0 eX12_remembers_40 hR.ne ?_
        refine z_dup eX12_remembers_41 (Nat.ne_of_beq_eq_false rfl) ?_
        refine z_rg (j := 6) lX12_213 eX12_remembers_42 rfl hR rfl rfl ?_
        rw [e0]
        refine z_iconst eX12_remembers_45 ?_
        refine z_isub eX12_remembers_46 ?_
        refine z_rp (j := 6) lX12_213 eX12_remembers_47 rfl hR rfl rfl ?_
        refine z_iconst eX12_remembers_50 ?_
        refine z_is1 eX12_remembers_51 (Nat.ne_of_beq_eq_false rfl) ?_
        exact m_X12_rem2 hR (by rw [zset_eq]; omega)
      · intro n h0 h1 ih
        refine z_il1 eX12_remembers_11 ?_
        refine z_sipush eX12_remembers_12 (by decide) ?_
        refine z_icmp_ge (tgt := 40) eX12_remembers_15 rfl ⟨⟨by omega, by omega⟩, ⟨by omega, by omega⟩⟩ (fun h15 => (by exfalso; omega)) (fun h15 => ?_)
        refine z_al0 eX12_remembers_18 hR.ne ?_
        refine z_ra lX12_19 eX12_remembers_19 rfl hR rfl ?_
        refine z_il1 eX12_remembers_22 ?_
        refine z_al0 eX12_remembers_23 hR.ne ?_
        refine z_ra lX12_19 eX12_remembers_24 rfl hR rfl ?_
        refine z_il1 eX12_remembers_27 ?_
        refine z_sipush eX12_remembers_28 (by decide) ?_
        refine z_iadd eX12_remembers_31 ?_
        refine z_rl eX12_remembers_32 hR (by decide) rfl rfl ⟨by omega, by omega⟩ ?_
        rw [zRow_e]
        refine z_rs eX12_remembers_33 hR (by decide) rfl rfl ⟨by omega, by omega⟩ ?_
        rw [zRow_put, qshift_s _ h0]
        refine z_ii1 eX12_remembers_34 (Nat.ne_of_beq_eq_false rfl) ?_
        refine z_goto eX12_remembers_37 (tgt := 11) rfl ?_
        exact ih
    have h0 := hl 0 (by omega) (by omega)
    rw [qshift_0, zRow_self] at h0
    refine z_al0 eX12_remembers_0 hR.ne ?_
    refine z_rg (j := 6) lX12_213 eX12_remembers_1 rfl hR rfl rfl ?_
    refine z_bipush eX12_remembers_4 (by decide) ?_
    refine z_icmp_ne (tgt := 50) eX12_remembers_6 rfl ⟨⟨by omega, by omega⟩, ⟨by omega, by omega⟩⟩ (fun h6 => (by exfalso; omega)) (fun h6 => ?_)
    refine z_iconst eX12_remembers_9 ?_
    refine z_is1 eX12_remembers_10 (Nat.ne_of_beq_eq_false rfl) ?_
    exact h0
  · rw [if_neg h12]
    refine z_al0 eX12_remembers_0 hR.ne ?_
    refine z_rg (j := 6) lX12_213 eX12_remembers_1 rfl hR rfl rfl ?_
    refine z_bipush eX12_remembers_4 (by decide) ?_
    refine z_icmp_ne (tgt := 50) eX12_remembers_6 rfl ⟨⟨by omega, by omega⟩, ⟨by omega, by omega⟩⟩ (fun h6 => ?_) (fun h6 => (by exfalso; omega))
    refine z_iconst eX12_remembers_50 ?_
    refine z_is1 eX12_remembers_51 (Nat.ne_of_beq_eq_false rfl) ?_
    exact m_X12_rem2 hR (by omega)
