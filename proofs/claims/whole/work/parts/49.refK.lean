/-! Acts that tell one number. -/
theorem m_X12_walk {G : zG} {lay : zLay} {σ C0 : zMem} {nx x : Int} {p n : Int} (hR : RefL lay x) (ha : 0 ≤ σ 0 6 ∧ σ 0 6 ≤ 12) (hp : zin p) (hn : zin n) (hm : 0 ≤ σ 1 3 ∧ σ 1 3 ≤ 7) : zMM G 3 KX12_walk [zP x, zI p, zI n] lay (rC x σ C0) nx (0, 0) (zR (some (zI (if (0 ≤ p ∧ p < σ 1 3) ∧ 0 ≤ n ∧ n ≤ 7 then σ 1 (46 + 4 * p + 0) else 0))) lay (rC x ((if (0 ≤ p ∧ p < σ 1 3) ∧ 0 ≤ n ∧ n ≤ 7 then qSets σ (46 + 4 * p + 0) n else zset σ 0 0 1)) C0) nx) := by
  refine z_met' (L := [zP x, zI p, zI n]) gX12_walk.1 rfl rfl (Nat.le_of_ble_eq_true rfl) rfl ?_
  obtain ⟨p1, p2⟩ := hp
  obtain ⟨n1, n2⟩ := hn
  refine z_al0 eX12_walk_0 hR.ne ?_
  refine z_al0 eX12_walk_1 hR.ne ?_
  refine z_il1 eX12_walk_2 ?_
  refine z_V1 eX12_walk_3 vX12_317 rfl rfl (Nat.le_of_ble_eq_true rfl) (Nat.le_of_ble_eq_true rfl) hR.x (m_X12_isMember hR ⟨by omega, by omega⟩ hm) ?_
  refine z_ifb_eq (tgt := 19) eX12_walk_6 rfl (fun h6 => ?_) (fun h6 => ?_)
  · refine z_iconst eX12_walk_19 ?_
    refine z_goto eX12_walk_20 (tgt := 24) rfl ?_
    refine z_rp (j := 0) lX12_48 eX12_walk_24 rfl hR rfl rfl ?_
    refine z_al0 eX12_walk_27 hR.ne ?_
    refine z_rg (j := 0) lX12_48 eX12_walk_28 rfl hR rfl rfl ?_
    rw [zset_eq]
    refine z_if_le (tgt := 38) eX12_walk_31 rfl ⟨by omega, by omega⟩ (fun h31 => (by exfalso; omega)) (fun h31 => ?_)
    refine z_iconst eX12_walk_34 ?_
    refine z_goto eX12_walk_35 (tgt := 51) rfl ?_
    refine z_ireturn eX12_walk_51 rfl ?_
    first | (rw [if_pos ⟨h6, h16⟩, if_pos ⟨h6, h16⟩]; exact ⟨rfl, rfl, rfl, rfl⟩) | (rw [if_neg (fun z => h16 z.2), if_neg (fun z => h16 z.2)]; exact ⟨rfl, rfl, rfl, rfl⟩) | (rw [if_neg (fun z => h6 z.1), if_neg (fun z => h6 z.1)]; exact ⟨rfl, rfl, rfl, rfl⟩)
  · refine z_il2 eX12_walk_9 ?_
    refine z_iconst eX12_walk_10 ?_
    refine z_bipush eX12_walk_11 (by decide) ?_
    refine z_S3 eX12_walk_13 vX12_51 rfl rfl (Nat.le_of_ble_eq_true rfl) (Nat.le_of_ble_eq_true rfl) (m_X12_isIn (by refine ⟨?_, ?_, ?_⟩ <;> first | omega | decide | assumption)) ?_
    refine z_ifb_ne (tgt := 23) eX12_walk_16 rfl (fun h16 => ?_) (fun h16 => ?_)
    · refine z_iconst eX12_walk_23 ?_
      refine z_rp (j := 0) lX12_48 eX12_walk_24 rfl hR rfl rfl ?_
      refine z_al0 eX12_walk_27 hR.ne ?_
      refine z_rg (j := 0) lX12_48 eX12_walk_28 rfl hR rfl rfl ?_
      rw [zset_eq]
      refine z_if_le (tgt := 38) eX12_walk_31 rfl ⟨by omega, by omega⟩ (fun h31 => ?_) (fun h31 => (by exfalso; omega))
      refine z_al0 eX12_walk_38 hR.ne ?_
      refine z_bipush eX12_walk_39 (by decide) ?_
      refine z_iconst eX12_walk_41 ?_
      refine z_il1 eX12_walk_42 ?_
      refine z_imul eX12_walk_43 ?_
      refine z_iadd eX12_walk_44 ?_
      refine z_iconst eX12_walk_45 ?_
      refine z_iadd eX12_walk_46 ?_
      refine z_il2 eX12_walk_47 ?_
      refine z_V2 eX12_walk_48 vX12_341 rfl rfl (Nat.le_of_ble_eq_true rfl) (Nat.le_of_ble_eq_true rfl) hR.x (m_X12_sets' hR ha ⟨by omega, by omega⟩) ?_
      refine z_ireturn eX12_walk_51 rfl ?_
      first | (rw [if_pos ⟨h6, h16⟩, if_pos ⟨h6, h16⟩]; exact ⟨rfl, rfl, rfl, rfl⟩) | (rw [if_neg (fun z => h16 z.2), if_neg (fun z => h16 z.2)]; exact ⟨rfl, rfl, rfl, rfl⟩) | (rw [if_neg (fun z => h6 z.1), if_neg (fun z => h6 z.1)]; exact ⟨rfl, rfl, rfl, rfl⟩)
    · refine z_iconst eX12_walk_19 ?_
      refine z_goto eX12_walk_20 (tgt := 24) rfl ?_
      refine z_rp (j := 0) lX12_48 eX12_walk_24 rfl hR rfl rfl ?_
      refine z_al0 eX12_walk_27 hR.ne ?_
      refine z_rg (j := 0) lX12_48 eX12_walk_28 rfl hR rfl rfl ?_
      rw [zset_eq]
      refine z_if_le (tgt := 38) eX12_walk_31 rfl ⟨by omega, by omega⟩ (fun h31 => (by exfalso; omega)) (fun h31 => ?_)
      refine z_iconst eX12_walk_34 ?_
      refine z_goto eX12_walk_35 (tgt := 51) rfl ?_
      refine z_ireturn eX12_walk_51 rfl ?_
      first | (rw [if_pos ⟨h6, h16⟩, if_pos ⟨h6, h16⟩]; exact ⟨rfl, rfl, rfl, rfl⟩) | (rw [if_neg (fun z => h16 z.2), if_neg (fun z => h16 z.2)]; exact ⟨rfl, rfl, rfl, rfl⟩) | (rw [if_neg (fun z => h6 z.1), if_neg (fun z => h6 z.1)]; exact ⟨rfl, rfl, rfl, rfl⟩)
theorem m_X12_clear {G : zG} {lay : zLay} {σ C0 : zMem} {nx x : Int} {h : Int} (hR : RefL lay x) (ha : 0 ≤ σ 0 6 ∧ σ 0 6 ≤ 12) (hh : zin h) (hs : ∀ t, 0 ≤ t → t < 12 → zin (σ 1 (114 + t))) : zMM G 3 KX12_clear [zP x, zI h] lay (rC x σ C0) nx (0, 0) (zR (some (zI (if qThr2 (0 ≤ h ∧ h < 12) (¬ σ 1 (114 + h) = -1) = 0 then σ 1 (114 + h) else 0))) lay (rC x ((if qThr2 (0 ≤ h ∧ h < 12) (¬ σ 1 (114 + h) = -1) = 0 then qSets σ (114 + h) (-1) else zset σ 0 0 (qThr2 (0 ≤ h ∧ h < 12) (¬ σ 1 (114 + h) = -1)))) C0) nx) := by
  refine z_met' (L := [zP x, zI h]) gX12_clear.1 rfl rfl (Nat.le_of_ble_eq_true rfl) rfl ?_
  obtain ⟨p1, p2⟩ := hh
  have e1 : ∀ v, zset σ 0 0 v 1 = σ 1 := fun v => zset_o (by decide)
  refine z_al0 eX12_clear_0 hR.ne ?_
  refine z_il1 eX12_clear_1 ?_
  refine z_S1 eX12_clear_2 vX12_332 rfl rfl (Nat.le_of_ble_eq_true rfl) (Nat.le_of_ble_eq_true rfl) (m_X12_isHour ⟨by omega, by omega⟩) ?_
  refine z_ifb_ne (tgt := 12) eX12_clear_5 rfl (fun h5 => ?_) (fun h5 => ?_)
  · refine z_iconst eX12_clear_12 ?_
    refine z_rp (j := 0) lX12_48 eX12_clear_13 rfl hR rfl rfl ?_
    refine z_al0 eX12_clear_16 hR.ne ?_
    refine z_rg (j := 0) lX12_48 eX12_clear_17 rfl hR rfl rfl ?_
    rw [zset_eq]
    refine z_if_le (tgt := 25) eX12_clear_20 rfl ⟨by omega, by omega⟩ (fun h20 => ?_) (fun h20 => (by exfalso; omega))
    refine z_al0 eX12_clear_25 hR.ne ?_
    refine z_al0 eX12_clear_26 hR.ne ?_
    refine z_ra lX12_7 eX12_clear_27 rfl hR rfl ?_
    refine z_bipush eX12_clear_30 (by decide) ?_
    refine z_il1 eX12_clear_32 ?_
    refine z_iadd eX12_clear_33 ?_
    refine z_rl eX12_clear_34 hR (by decide) rfl rfl ⟨by omega, by omega⟩ ?_
    rw [e1]
    refine z_iconst eX12_clear_35 ?_
    refine z_icmp_ne (tgt := 43) eX12_clear_36 rfl ⟨hs h (by omega) (by omega), by decide⟩ (fun h36 => ?_) (fun h36 => ?_)
    · refine z_iconst eX12_clear_43 ?_
      refine z_rp (j := 0) lX12_48 eX12_clear_44 rfl hR rfl rfl ?_
      rw [zset_zset]
      refine z_al0 eX12_clear_47 hR.ne ?_
      refine z_rg (j := 0) lX12_48 eX12_clear_48 rfl hR rfl rfl ?_
      rw [zset_eq]
      refine z_if_le (tgt := 58) eX12_clear_51 rfl ⟨by omega, by omega⟩ (fun h51 => ?_) (fun h51 => (by exfalso; omega))
      refine z_al0 eX12_clear_58 hR.ne ?_
      refine z_bipush eX12_clear_59 (by decide) ?_
      refine z_il1 eX12_clear_61 ?_
      refine z_iadd eX12_clear_62 ?_
      refine z_iconst eX12_clear_63 ?_
      refine z_V2 eX12_clear_64 vX12_341 rfl rfl (Nat.le_of_ble_eq_true rfl) (Nat.le_of_ble_eq_true rfl) hR.x (m_X12_sets' hR ha ⟨by omega, by omega⟩) ?_
      refine z_ireturn eX12_clear_67 rfl ?_
      first | (rw [qThr2_0 h5 h36, if_pos rfl, if_pos rfl]; exact ⟨rfl, rfl, rfl, rfl⟩) | (rw [qThr2_2 h5 (fun z => z h36), if_neg (by decide), if_neg (by decide)]; exact ⟨rfl, rfl, rfl, rfl⟩) | (rw [qThr2_1 h5, if_neg (by decide), if_neg (by decide)]; exact ⟨rfl, rfl, rfl, rfl⟩)
    · refine z_iconst eX12_clear_39 ?_
      refine z_goto eX12_clear_40 (tgt := 44) rfl ?_
      refine z_rp (j := 0) lX12_48 eX12_clear_44 rfl hR rfl rfl ?_
      rw [zset_zset]
      refine z_al0 eX12_clear_47 hR.ne ?_
      refine z_rg (j := 0) lX12_48 eX12_clear_48 rfl hR rfl rfl ?_
      rw [zset_eq]
      refine z_if_le (tgt := 58) eX12_clear_51 rfl ⟨by omega, by omega⟩ (fun h51 => (by exfalso; omega)) (fun h51 => ?_)
      refine z_iconst eX12_clear_54 ?_
      refine z_goto eX12_clear_55 (tgt := 67) rfl ?_
      refine z_ireturn eX12_clear_67 rfl ?_
      first | (rw [qThr2_0 h5 h36, if_pos rfl, if_pos rfl]; exact ⟨rfl, rfl, rfl, rfl⟩) | (rw [qThr2_2 h5 (fun z => z h36), if_neg (by decide), if_neg (by decide)]; exact ⟨rfl, rfl, rfl, rfl⟩) | (rw [qThr2_1 h5, if_neg (by decide), if_neg (by decide)]; exact ⟨rfl, rfl, rfl, rfl⟩)
  · refine z_iconst eX12_clear_8 ?_
    refine z_goto eX12_clear_9 (tgt := 13) rfl ?_
    refine z_rp (j := 0) lX12_48 eX12_clear_13 rfl hR rfl rfl ?_
    refine z_al0 eX12_clear_16 hR.ne ?_
    refine z_rg (j := 0) lX12_48 eX12_clear_17 rfl hR rfl rfl ?_
    rw [zset_eq]
    refine z_if_le (tgt := 25) eX12_clear_20 rfl ⟨by omega, by omega⟩ (fun h20 => (by exfalso; omega)) (fun h20 => ?_)
    refine z_iconst eX12_clear_23 ?_
    refine z_ireturn eX12_clear_24 rfl ?_
    first | (rw [qThr2_0 h5 h36, if_pos rfl, if_pos rfl]; exact ⟨rfl, rfl, rfl, rfl⟩) | (rw [qThr2_2 h5 (fun z => z h36), if_neg (by decide), if_neg (by decide)]; exact ⟨rfl, rfl, rfl, rfl⟩) | (rw [qThr2_1 h5, if_neg (by decide), if_neg (by decide)]; exact ⟨rfl, rfl, rfl, rfl⟩)
