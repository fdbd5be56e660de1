/-! What is asked of the row, plainly. -/
theorem m_X12_fault {G : zG} {lay : zLay} {σ C0 : zMem} {nx x : Int} (hR : RefL lay x) : zMM G 1 KX12_fault [zP x] lay (rC x σ C0) nx (0, 0) (zR (some (zI (σ 0 12))) lay (rC x (zset σ 0 0 0) C0) nx) := by
  refine z_met' (L := [zP x]) gX12_fault.1 rfl rfl (Nat.le_of_ble_eq_true rfl) rfl ?_
  have e : zset σ 0 0 0 0 12 = σ 0 12 := by simp [zset_at]
  refine z_al0 eX12_fault_0 hR.ne ?_
  refine z_iconst eX12_fault_1 ?_
  refine z_rp (j := 0) lX12_48 eX12_fault_2 rfl hR rfl rfl ?_
  refine z_al0 eX12_fault_5 hR.ne ?_
  refine z_rg (j := 12) lX12_25 eX12_fault_6 rfl hR rfl rfl ?_
  refine z_ireturn eX12_fault_9 rfl ?_
  exact zRe e
theorem m_X12_follows {G : zG} {lay : zLay} {σ C0 : zMem} {nx x : Int} {s t : Int} (hR : RefL lay x) (hs : zin s) (ht : zin t) : zMM G 3 KX12_follows [zP x, zI s, zI t] lay (rC x σ C0) nx (0, 0) (zR (some (zI (if (0 ≤ s ∧ s < 5) ∧ 0 ≤ t ∧ t < 5 then σ 1 (13 + 5 * s + t) else 0))) lay (rC x (zset σ 0 0 (if (0 ≤ s ∧ s < 5) ∧ 0 ≤ t ∧ t < 5 then 0 else 1)) C0) nx) := by
  refine z_met' (L := [zP x, zI s, zI t]) gX12_follows.1 rfl rfl (Nat.le_of_ble_eq_true rfl) rfl ?_
  obtain ⟨s1, s2⟩ := hs
  obtain ⟨t1, t2⟩ := ht
  refine z_al0 eX12_follows_0 hR.ne ?_
  refine z_il1 eX12_follows_1 ?_
  refine z_S1 eX12_follows_2 vX12_329 rfl rfl (Nat.le_of_ble_eq_true rfl) (Nat.le_of_ble_eq_true rfl) (m_X12_isSky ⟨by omega, by omega⟩) ?_
  refine z_ifb_eq (tgt := 15) eX12_follows_5 rfl (fun h5 => ?_) (fun h5 => ?_)
  · refine z_iconst eX12_follows_15 ?_
    refine z_goto eX12_follows_16 (tgt := 20) rfl ?_
    refine z_rp (j := 0) lX12_48 eX12_follows_20 rfl hR rfl rfl ?_
    refine z_al0 eX12_follows_23 hR.ne ?_
    refine z_rg (j := 0) lX12_48 eX12_follows_24 rfl hR rfl rfl ?_
    rw [zset_eq]
    refine z_if_le (tgt := 34) eX12_follows_27 rfl ⟨by omega, by omega⟩ (fun h27 => (by exfalso; omega)) (fun h27 => ?_)
    refine z_iconst eX12_follows_30 ?_
    refine z_goto eX12_follows_31 (tgt := 40) rfl ?_
    first | rw [zset_o (by decide)] | skip
    refine z_ireturn eX12_follows_40 rfl ?_
    first | (rw [if_pos (by omega), if_pos (by omega)]; exact ⟨rfl, rfl, rfl, rfl⟩) | (rw [if_neg (by omega), if_neg (by omega)]; exact ⟨rfl, rfl, rfl, rfl⟩)
  · refine z_il2 eX12_follows_8 ?_
    refine z_S1 eX12_follows_9 vX12_329 rfl rfl (Nat.le_of_ble_eq_true rfl) (Nat.le_of_ble_eq_true rfl) (m_X12_isSky ⟨by omega, by omega⟩) ?_
    refine z_ifb_ne (tgt := 19) eX12_follows_12 rfl (fun h12 => ?_) (fun h12 => ?_)
    · refine z_iconst eX12_follows_19 ?_
      refine z_rp (j := 0) lX12_48 eX12_follows_20 rfl hR rfl rfl ?_
      refine z_al0 eX12_follows_23 hR.ne ?_
      refine z_rg (j := 0) lX12_48 eX12_follows_24 rfl hR rfl rfl ?_
      rw [zset_eq]
      refine z_if_le (tgt := 34) eX12_follows_27 rfl ⟨by omega, by omega⟩ (fun h27 => ?_) (fun h27 => (by exfalso; omega))
      refine z_al0 eX12_follows_34 hR.ne ?_
      refine z_il1 eX12_follows_35 ?_
      refine z_il2 eX12_follows_36 ?_
      refine z_V2 eX12_follows_37 vX12_59 rfl rfl (Nat.le_of_ble_eq_true rfl) (Nat.le_of_ble_eq_true rfl) hR.x (m_X12_weight hR ⟨by omega, by omega⟩ ⟨by omega, by omega⟩) ?_
      first | rw [zset_o (by decide)] | skip
      refine z_ireturn eX12_follows_40 rfl ?_
      first | (rw [if_pos (by omega), if_pos (by omega)]; exact ⟨rfl, rfl, rfl, rfl⟩) | (rw [if_neg (by omega), if_neg (by omega)]; exact ⟨rfl, rfl, rfl, rfl⟩)
    · refine z_iconst eX12_follows_15 ?_
      refine z_goto eX12_follows_16 (tgt := 20) rfl ?_
      refine z_rp (j := 0) lX12_48 eX12_follows_20 rfl hR rfl rfl ?_
      refine z_al0 eX12_follows_23 hR.ne ?_
      refine z_rg (j := 0) lX12_48 eX12_follows_24 rfl hR rfl rfl ?_
      rw [zset_eq]
      refine z_if_le (tgt := 34) eX12_follows_27 rfl ⟨by omega, by omega⟩ (fun h27 => (by exfalso; omega)) (fun h27 => ?_)
      refine z_iconst eX12_follows_30 ?_
      refine z_goto eX12_follows_31 (tgt := 40) rfl ?_
      first | rw [zset_o (by decide)] | skip
      refine z_ireturn eX12_follows_40 rfl ?_
      first | (rw [if_pos (by omega), if_pos (by omega)]; exact ⟨rfl, rfl, rfl, rfl⟩) | (rw [if_neg (by omega), if_neg (by omega)]; exact ⟨rfl, rfl, rfl, rfl⟩)
theorem m_X12_exposed {G : zG} {lay : zLay} {σ C0 : zMem} {nx x : Int} {s : Int} (hR : RefL lay x) (hs : zin s) : zMM G 2 KX12_exposed [zP x, zI s] lay (rC x σ C0) nx (0, 0) (zR (some (zI (if 0 ≤ s ∧ s < 8 then σ 1 (38 + s) else 0))) lay (rC x (zset σ 0 0 (if 0 ≤ s ∧ s < 8 then 0 else 1)) C0) nx) := by
  refine z_met' (L := [zP x, zI s]) gX12_exposed.1 rfl rfl (Nat.le_of_ble_eq_true rfl) rfl ?_
  obtain ⟨s1, s2⟩ := hs
  refine z_al0 eX12_exposed_0 hR.ne ?_
  refine z_il1 eX12_exposed_1 ?_
  refine z_iconst eX12_exposed_2 ?_
  refine z_bipush eX12_exposed_3 (by decide) ?_
  refine z_S3 eX12_exposed_5 vX12_51 rfl rfl (Nat.le_of_ble_eq_true rfl) (Nat.le_of_ble_eq_true rfl) (m_X12_isIn (by refine ⟨?_, ?_, ?_⟩ <;> first | omega | decide | assumption)) ?_
  refine z_ifb_ne (tgt := 15) eX12_exposed_8 rfl (fun h8 => ?_) (fun h8 => ?_)
  · refine z_iconst eX12_exposed_15 ?_
    refine z_rp (j := 0) lX12_48 eX12_exposed_16 rfl hR rfl rfl ?_
    refine z_al0 eX12_exposed_19 hR.ne ?_
    refine z_rg (j := 0) lX12_48 eX12_exposed_20 rfl hR rfl rfl ?_
    rw [zset_eq]
    refine z_if_le (tgt := 30) eX12_exposed_23 rfl ⟨by omega, by omega⟩ (fun h23 => ?_) (fun h23 => (by exfalso; omega))
    refine z_al0 eX12_exposed_30 hR.ne ?_
    refine z_ra lX12_7 eX12_exposed_31 rfl hR rfl ?_
    refine z_bipush eX12_exposed_34 (by decide) ?_
    refine z_il1 eX12_exposed_36 ?_
    refine z_iadd eX12_exposed_37 ?_
    refine z_rl eX12_exposed_38 hR (by decide) rfl rfl ⟨by omega, by omega⟩ ?_
    first | rw [zset_o (by decide)] | skip
    refine z_ireturn eX12_exposed_39 rfl ?_
    first | (rw [if_pos (by omega), if_pos (by omega)]; exact ⟨rfl, rfl, rfl, rfl⟩) | (rw [if_neg (by omega), if_neg (by omega)]; exact ⟨rfl, rfl, rfl, rfl⟩)
  · refine z_iconst eX12_exposed_11 ?_
    refine z_goto eX12_exposed_12 (tgt := 16) rfl ?_
    refine z_rp (j := 0) lX12_48 eX12_exposed_16 rfl hR rfl rfl ?_
    refine z_al0 eX12_exposed_19 hR.ne ?_
    refine z_rg (j := 0) lX12_48 eX12_exposed_20 rfl hR rfl rfl ?_
    rw [zset_eq]
    refine z_if_le (tgt := 30) eX12_exposed_23 rfl ⟨by omega, by omega⟩ (fun h23 => (by exfalso; omega)) (fun h23 => ?_)
    refine z_iconst eX12_exposed_26 ?_
    refine z_goto eX12_exposed_27 (tgt := 39) rfl ?_
    first | rw [zset_o (by decide)] | skip
    refine z_ireturn eX12_exposed_39 rfl ?_
    first | (rw [if_pos (by omega), if_pos (by omega)]; exact ⟨rfl, rfl, rfl, rfl⟩) | (rw [if_neg (by omega), if_neg (by omega)]; exact ⟨rfl, rfl, rfl, rfl⟩)
theorem m_X12_paper {G : zG} {lay : zLay} {σ C0 : zMem} {nx x : Int} {s : Int} (hR : RefL lay x) (hs : zin s) : zMM G 3 KX12_paper [zP x, zI s] lay (rC x σ C0) nx (0, 0) (zR (some (zI (if 0 ≤ s ∧ s < 12 then σ 1 (114 + s) else 0))) lay (rC x (zset σ 0 0 (if 0 ≤ s ∧ s < 12 then 0 else 1)) C0) nx) := by
  refine z_met' (L := [zP x, zI s]) gX12_paper.1 rfl rfl (Nat.le_of_ble_eq_true rfl) rfl ?_
  obtain ⟨s1, s2⟩ := hs
  refine z_al0 eX12_paper_0 hR.ne ?_
  refine z_il1 eX12_paper_1 ?_
  refine z_S1 eX12_paper_2 vX12_332 rfl rfl (Nat.le_of_ble_eq_true rfl) (Nat.le_of_ble_eq_true rfl) (m_X12_isHour ⟨by omega, by omega⟩) ?_
  refine z_ifb_ne (tgt := 12) eX12_paper_5 rfl (fun h5 => ?_) (fun h5 => ?_)
  · refine z_iconst eX12_paper_12 ?_
    refine z_rp (j := 0) lX12_48 eX12_paper_13 rfl hR rfl rfl ?_
    refine z_al0 eX12_paper_16 hR.ne ?_
    refine z_rg (j := 0) lX12_48 eX12_paper_17 rfl hR rfl rfl ?_
    rw [zset_eq]
    refine z_if_le (tgt := 27) eX12_paper_20 rfl ⟨by omega, by omega⟩ (fun h20 => ?_) (fun h20 => (by exfalso; omega))
    refine z_al0 eX12_paper_27 hR.ne ?_
    refine z_ra lX12_7 eX12_paper_28 rfl hR rfl ?_
    refine z_bipush eX12_paper_31 (by decide) ?_
    refine z_il1 eX12_paper_33 ?_
    refine z_iadd eX12_paper_34 ?_
    refine z_rl eX12_paper_35 hR (by decide) rfl rfl ⟨by omega, by omega⟩ ?_
    first | rw [zset_o (by decide)] | skip
    refine z_ireturn eX12_paper_36 rfl ?_
    first | (rw [if_pos (by omega), if_pos (by omega)]; exact ⟨rfl, rfl, rfl, rfl⟩) | (rw [if_neg (by omega), if_neg (by omega)]; exact ⟨rfl, rfl, rfl, rfl⟩)
  · refine z_iconst eX12_paper_8 ?_
    refine z_goto eX12_paper_9 (tgt := 13) rfl ?_
    refine z_rp (j := 0) lX12_48 eX12_paper_13 rfl hR rfl rfl ?_
    refine z_al0 eX12_paper_16 hR.ne ?_
    refine z_rg (j := 0) lX12_48 eX12_paper_17 rfl hR rfl rfl ?_
    rw [zset_eq]
    refine z_if_le (tgt := 27) eX12_paper_20 rfl ⟨by omega, by omega⟩ (fun h20 => (by exfalso; omega)) (fun h20 => ?_)
    refine z_iconst eX12_paper_23 ?_
    refine z_goto eX12_paper_24 (tgt := 36) rfl ?_
    first | rw [zset_o (by decide)] | skip
    refine z_ireturn eX12_paper_36 rfl ?_
    first | (rw [if_pos (by omega), if_pos (by omega)]; exact ⟨rfl, rfl, rfl, rfl⟩) | (rw [if_neg (by omega), if_neg (by omega)]; exact ⟨rfl, rfl, rfl, rfl⟩)
