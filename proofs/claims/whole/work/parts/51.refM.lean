/-! Acts that tell one number: a hat, who is out. -/
theorem m_X12_changes {G : zG} {lay : zLay} {σ C0 : zMem} {nx x : Int} {p w v : Int} (hR : RefL lay x) (ha : 0 ≤ σ 0 6 ∧ σ 0 6 ≤ 12) (hp : zin p) (hw : 0 ≤ w ∧ w < 4) (hv : v = 0 ∨ v = 1) (h : zOK (σ 1)) (hb : 0 ≤ p → p < σ 1 3 → zin (σ 1 (46 + 4 * p + w))) : zMM G 3 KX12_changes [zP x, zI p, zI w, zI v] lay (rC x σ C0) nx (0, 0) (zR (some (zI (zbi ((0 ≤ p ∧ p < σ 1 3) ∧ ¬ σ 1 (46 + 4 * p + w) = v)))) lay (rC x ((if 0 ≤ p ∧ p < σ 1 3 then qSets σ (46 + 4 * p + w) v else zset σ 0 0 1)) C0) nx) := by
  refine z_met' (L := [zP x, zI p, zI w, zI v]) gX12_changes.1 rfl rfl (Nat.le_of_ble_eq_true rfl) rfl ?_
  obtain ⟨p1, p2⟩ := hp
  have hm := h.1.m3
  by_cases h6' : 0 ≤ p ∧ p < σ 1 3
  · have hb' := hb h6'.1 h6'.2
    rw [if_pos h6']
    rcases hv with hv | hv <;> subst hv
    · skip
      refine z_al0 eX12_changes_0 hR.ne ?_
      refine z_al0 eX12_changes_1 hR.ne ?_
      refine z_il1 eX12_changes_2 ?_
      refine z_V1 eX12_changes_3 vX12_317 rfl rfl (Nat.le_of_ble_eq_true rfl) (Nat.le_of_ble_eq_true rfl) hR.x (m_X12_isMember hR ⟨by omega, by omega⟩ hm) ?_
      refine z_ifb_ne (tgt := 13) eX12_changes_6 rfl (fun h6 => ?_) (fun h6 => absurd h6' h6)
      refine z_iconst eX12_changes_13 ?_
      refine z_rp (j := 0) lX12_48 eX12_changes_14 rfl hR rfl rfl ?_
      refine z_al0 eX12_changes_17 hR.ne ?_
      refine z_rg (j := 0) lX12_48 eX12_changes_18 rfl hR rfl rfl ?_
      rw [zset_eq]
      refine z_if_ne (tgt := 61) eX12_changes_21 rfl ⟨by omega, by omega⟩ (fun h21 => (by exfalso; omega)) (fun h21 => ?_)
      refine z_al0 eX12_changes_24 hR.ne ?_
      refine z_bipush eX12_changes_25 (by decide) ?_
      refine z_iconst eX12_changes_27 ?_
      refine z_il1 eX12_changes_28 ?_
      refine z_imul eX12_changes_29 ?_
      refine z_iadd eX12_changes_30 ?_
      refine z_il2 eX12_changes_31 ?_
      refine z_iadd eX12_changes_32 ?_
      refine z_il3 eX12_changes_33 ?_
      refine z_if_eq (tgt := 41) eX12_changes_34 rfl ⟨by omega, by omega⟩ (fun h34 => ?_) (fun h34 => (by exfalso; omega))
      refine z_iconst eX12_changes_41 ?_
      refine z_V2 eX12_changes_42 vX12_341 rfl rfl (Nat.le_of_ble_eq_true rfl) (Nat.le_of_ble_eq_true rfl) hR.x (m_X12_sets' hR ha ⟨by omega, by omega⟩) ?_
      refine z_il3 eX12_changes_45 ?_
      refine z_if_eq (tgt := 53) eX12_changes_46 rfl ⟨by omega, by omega⟩ (fun h46 => ?_) (fun h46 => (by exfalso; omega))
      refine z_iconst eX12_changes_53 ?_
      refine z_icmp_eq (tgt := 61) eX12_changes_54 rfl ⟨hb', by decide⟩ (fun h54 => ?_) (fun h54 => ?_)
      · refine z_iconst eX12_changes_61 ?_
        refine z_zreturn eX12_changes_62 rfl (by first | exact Or.inl rfl | exact Or.inr rfl | exact zbi_01 _ | assumption | omega) ?_
        first | exact zRb1 ⟨h6', h54⟩ | exact zRb0 (fun z => z.2 h54)
      · refine z_iconst eX12_changes_57 ?_
        refine z_goto eX12_changes_58 (tgt := 62) rfl ?_
        refine z_zreturn eX12_changes_62 rfl (by first | exact Or.inl rfl | exact Or.inr rfl | exact zbi_01 _ | assumption | omega) ?_
        first | exact zRb1 ⟨h6', h54⟩ | exact zRb0 (fun z => z.2 h54)
    · skip
      refine z_al0 eX12_changes_0 hR.ne ?_
      refine z_al0 eX12_changes_1 hR.ne ?_
      refine z_il1 eX12_changes_2 ?_
      refine z_V1 eX12_changes_3 vX12_317 rfl rfl (Nat.le_of_ble_eq_true rfl) (Nat.le_of_ble_eq_true rfl) hR.x (m_X12_isMember hR ⟨by omega, by omega⟩ hm) ?_
      refine z_ifb_ne (tgt := 13) eX12_changes_6 rfl (fun h6 => ?_) (fun h6 => absurd h6' h6)
      refine z_iconst eX12_changes_13 ?_
      refine z_rp (j := 0) lX12_48 eX12_changes_14 rfl hR rfl rfl ?_
      refine z_al0 eX12_changes_17 hR.ne ?_
      refine z_rg (j := 0) lX12_48 eX12_changes_18 rfl hR rfl rfl ?_
      rw [zset_eq]
      refine z_if_ne (tgt := 61) eX12_changes_21 rfl ⟨by omega, by omega⟩ (fun h21 => (by exfalso; omega)) (fun h21 => ?_)
      refine z_al0 eX12_changes_24 hR.ne ?_
      refine z_bipush eX12_changes_25 (by decide) ?_
      refine z_iconst eX12_changes_27 ?_
      refine z_il1 eX12_changes_28 ?_
      refine z_imul eX12_changes_29 ?_
      refine z_iadd eX12_changes_30 ?_
      refine z_il2 eX12_changes_31 ?_
      refine z_iadd eX12_changes_32 ?_
      refine z_il3 eX12_changes_33 ?_
      refine z_if_eq (tgt := 41) eX12_changes_34 rfl ⟨by omega, by omega⟩ (fun h34 => (by exfalso; omega)) (fun h34 => ?_)
      refine z_iconst eX12_changes_37 ?_
      refine z_goto eX12_changes_38 (tgt := 42) rfl ?_
      refine z_V2 eX12_changes_42 vX12_341 rfl rfl (Nat.le_of_ble_eq_true rfl) (Nat.le_of_ble_eq_true rfl) hR.x (m_X12_sets' hR ha ⟨by omega, by omega⟩) ?_
      refine z_il3 eX12_changes_45 ?_
      refine z_if_eq (tgt := 53) eX12_changes_46 rfl ⟨by omega, by omega⟩ (fun h46 => (by exfalso; omega)) (fun h46 => ?_)
      refine z_iconst eX12_changes_49 ?_
      refine z_goto eX12_changes_50 (tgt := 54) rfl ?_
      refine z_icmp_eq (tgt := 61) eX12_changes_54 rfl ⟨hb', by decide⟩ (fun h54 => ?_) (fun h54 => ?_)
      · refine z_iconst eX12_changes_61 ?_
        refine z_zreturn eX12_changes_62 rfl (by first | exact Or.inl rfl | exact Or.inr rfl | exact zbi_01 _ | assumption | omega) ?_
        first | exact zRb1 ⟨h6', h54⟩ | exact zRb0 (fun z => z.2 h54)
      · refine z_iconst eX12_changes_57 ?_
        refine z_goto eX12_changes_58 (tgt := 62) rfl ?_
        refine z_zreturn eX12_changes_62 rfl (by first | exact Or.inl rfl | exact Or.inr rfl | exact zbi_01 _ | assumption | omega) ?_
        first | exact zRb1 ⟨h6', h54⟩ | exact zRb0 (fun z => z.2 h54)
  · rw [if_neg h6']
    refine z_al0 eX12_changes_0 hR.ne ?_
    refine z_al0 eX12_changes_1 hR.ne ?_
    refine z_il1 eX12_changes_2 ?_
    refine z_V1 eX12_changes_3 vX12_317 rfl rfl (Nat.le_of_ble_eq_true rfl) (Nat.le_of_ble_eq_true rfl) hR.x (m_X12_isMember hR ⟨by omega, by omega⟩ hm) ?_
    refine z_ifb_ne (tgt := 13) eX12_changes_6 rfl (fun h6 => absurd h6 h6') (fun h6 => ?_)
    refine z_iconst eX12_changes_9 ?_
    refine z_goto eX12_changes_10 (tgt := 14) rfl ?_
    refine z_rp (j := 0) lX12_48 eX12_changes_14 rfl hR rfl rfl ?_
    refine z_al0 eX12_changes_17 hR.ne ?_
    refine z_rg (j := 0) lX12_48 eX12_changes_18 rfl hR rfl rfl ?_
    rw [zset_eq]
    refine z_if_ne (tgt := 61) eX12_changes_21 rfl ⟨by omega, by omega⟩ (fun h21 => ?_) (fun h21 => (by exfalso; omega))
    refine z_iconst eX12_changes_61 ?_
    refine z_zreturn eX12_changes_62 rfl (by first | exact Or.inl rfl | exact Or.inr rfl | exact zbi_01 _ | assumption | omega) ?_
    exact zRb0 (fun z => h6' z.1)
theorem m_X12_hat {G : zG} {lay : zLay} {σ C0 : zMem} {nx x : Int} {p v : Int} (hR : RefL lay x) (ha : 0 ≤ σ 0 6 ∧ σ 0 6 ≤ 12) (hp : zin p) (hv : v = 0 ∨ v = 1) (h : zOK (σ 1)) : zMM G 4 KX12_hat [zP x, zI p, zI v] lay (rC x σ C0) nx (0, 0) (zR (some (zI (zbi ((0 ≤ p ∧ p < σ 1 3) ∧ ¬ σ 1 (46 + 4 * p + 2) = v)))) lay (rC x ((if 0 ≤ p ∧ p < σ 1 3 then qSets σ (46 + 4 * p + 2) v else zset σ 0 0 1)) C0) nx) := by
  refine z_met' (L := [zP x, zI p, zI v]) gX12_hat.1 rfl rfl (Nat.le_of_ble_eq_true rfl) rfl ?_
  have hm := h.1.m3
  have hb : 0 ≤ p → p < σ 1 3 → zin (σ 1 (46 + 4 * p + 2)) := fun z1 z2 => by
    have := (h.1.U (p := p) ⟨z1, by omega⟩).2.2.1
    exact ⟨by omega, by omega⟩
  refine z_al0 eX12_hat_0 hR.ne ?_
  refine z_il1 eX12_hat_1 ?_
  refine z_iconst eX12_hat_2 ?_
  refine z_il2 eX12_hat_3 ?_
  refine z_V3 eX12_hat_4 vX12_344 rfl rfl (Nat.le_of_ble_eq_true rfl) (Nat.le_of_ble_eq_true rfl) hR.x (m_X12_changes hR ha hp ⟨by decide, by decide⟩ hv h hb) ?_
  refine z_zreturn eX12_hat_7 rfl (by first | exact Or.inl rfl | exact Or.inr rfl | exact zbi_01 _ | assumption | omega) ?_
  first | exact ⟨rfl, rfl, rfl, rfl⟩ | exact zRb1 (by omega) | exact zRb0 (by omega) | exact zRe (by omega)
theorem m_X12_out {G : zG} {lay : zLay} {σ C0 : zMem} {nx x : Int} {p v : Int} (hR : RefL lay x) (ha : 0 ≤ σ 0 6 ∧ σ 0 6 ≤ 12) (hp : zin p) (hv : v = 0 ∨ v = 1) (h : zOK (σ 1)) : zMM G 4 KX12_out [zP x, zI p, zI v] lay (rC x σ C0) nx (0, 0) (zR (some (zI (zbi ((0 ≤ p ∧ p < σ 1 3) ∧ ¬ σ 1 (46 + 4 * p + 3) = v)))) lay (rC x ((if 0 ≤ p ∧ p < σ 1 3 then qSets σ (46 + 4 * p + 3) v else zset σ 0 0 1)) C0) nx) := by
  refine z_met' (L := [zP x, zI p, zI v]) gX12_out.1 rfl rfl (Nat.le_of_ble_eq_true rfl) rfl ?_
  have hm := h.1.m3
  have hb : 0 ≤ p → p < σ 1 3 → zin (σ 1 (46 + 4 * p + 3)) := fun z1 z2 => by
    have := (h.1.U (p := p) ⟨z1, by omega⟩).2.2.2
    exact ⟨by omega, by omega⟩
  refine z_al0 eX12_out_0 hR.ne ?_
  refine z_il1 eX12_out_1 ?_
  refine z_iconst eX12_out_2 ?_
  refine z_il2 eX12_out_3 ?_
  refine z_V3 eX12_out_4 vX12_344 rfl rfl (Nat.le_of_ble_eq_true rfl) (Nat.le_of_ble_eq_true rfl) hR.x (m_X12_changes hR ha hp ⟨by decide, by decide⟩ hv h hb) ?_
  refine z_zreturn eX12_out_7 rfl (by first | exact Or.inl rfl | exact Or.inr rfl | exact zbi_01 _ | assumption | omega) ?_
  first | exact ⟨rfl, rfl, rfl, rfl⟩ | exact zRb1 (by omega) | exact zRb0 (by omega) | exact zRe (by omega)
