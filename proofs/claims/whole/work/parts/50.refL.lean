/-! Acts that tell one number: a motion's. -/
theorem zInv.st {M : Int → Int} (h : zInv M) {k : Int} (hk : 0 ≤ k ∧ k < 8) : 0 ≤ M (74 + 5 * k + 4) ∧ M (74 + 5 * k + 4) ≤ 3 :=
  h.at (lo := 0) (hi := 3) (by rw [zBd_V hk ⟨by omega, by omega⟩]; rfl) ⟨by omega, by omega⟩ (by unfold zFree; omega)
theorem m_X12_renew {G : zG} {lay : zLay} {σ C0 : zMem} {nx x : Int} {k : Int} (hR : RefL lay x) (ha : 0 ≤ σ 0 6 ∧ σ 0 6 ≤ 12) (hk : zin k) (h : zOK (σ 1)) : zMM G 3 KX12_renew [zP x, zI k] lay (rC x σ C0) nx (0, 0) (zR (some (zI (if qThr2 (0 ≤ k ∧ k < σ 1 4) (2 ≤ σ 1 (74 + 5 * k + 4)) = 0 then σ 1 (74 + 5 * k + 4) else 0))) lay (rC x ((if qThr2 (0 ≤ k ∧ k < σ 1 4) (2 ≤ σ 1 (74 + 5 * k + 4)) = 0 then qSets σ (74 + 5 * k + 4) 0 else zset σ 0 0 (qThr2 (0 ≤ k ∧ k < σ 1 4) (2 ≤ σ 1 (74 + 5 * k + 4))))) C0) nx) := by
  refine z_met' (L := [zP x, zI k]) gX12_renew.1 rfl rfl (Nat.le_of_ble_eq_true rfl) rfl ?_
  obtain ⟨p1, p2⟩ := hk
  have hm := h.1.m4
  have e1 : ∀ v, zset σ 0 0 v 1 = σ 1 := fun v => zset_o (by decide)
  have hst : 0 ≤ k ∧ k < σ 1 4 → zin (σ 1 (74 + 5 * k + 4)) := fun z => by
    have := h.1.st (k := k) ⟨z.1, by omega⟩
    exact ⟨by omega, by omega⟩
  refine z_al0 eX12_renew_0 hR.ne ?_
  refine z_al0 eX12_renew_1 hR.ne ?_
  refine z_il1 eX12_renew_2 ?_
  refine z_V1 eX12_renew_3 vX12_326 rfl rfl (Nat.le_of_ble_eq_true rfl) (Nat.le_of_ble_eq_true rfl) hR.x (m_X12_isMotion hR ⟨by omega, by omega⟩ hm) ?_
  refine z_ifb_ne (tgt := 13) eX12_renew_6 rfl (fun h6 => ?_) (fun h6 => ?_)
  · refine z_iconst eX12_renew_13 ?_
    refine z_rp (j := 0) lX12_48 eX12_renew_14 rfl hR rfl rfl ?_
    refine z_al0 eX12_renew_17 hR.ne ?_
    refine z_rg (j := 0) lX12_48 eX12_renew_18 rfl hR rfl rfl ?_
    rw [zset_eq]
    refine z_if_le (tgt := 26) eX12_renew_21 rfl ⟨by omega, by omega⟩ (fun h21 => ?_) (fun h21 => (by exfalso; omega))
    refine z_al0 eX12_renew_26 hR.ne ?_
    refine z_al0 eX12_renew_27 hR.ne ?_
    refine z_il1 eX12_renew_28 ?_
    refine z_iconst eX12_renew_29 ?_
    refine z_V2 eX12_renew_30 vX12_55 rfl rfl (Nat.le_of_ble_eq_true rfl) (Nat.le_of_ble_eq_true rfl) hR.x (m_X12_ofMotion hR ⟨by omega, by omega⟩ ⟨by omega, by omega⟩) ?_
    rw [e1]
    refine z_iconst eX12_renew_33 ?_
    refine z_icmp_ge (tgt := 41) eX12_renew_34 rfl ⟨hst h6, by decide⟩ (fun h34 => ?_) (fun h34 => ?_)
    · refine z_iconst eX12_renew_41 ?_
      refine z_rp (j := 0) lX12_48 eX12_renew_42 rfl hR rfl rfl ?_
      rw [zset_zset]
      refine z_al0 eX12_renew_45 hR.ne ?_
      refine z_rg (j := 0) lX12_48 eX12_renew_46 rfl hR rfl rfl ?_
      rw [zset_eq]
      refine z_if_le (tgt := 56) eX12_renew_49 rfl ⟨by omega, by omega⟩ (fun h49 => ?_) (fun h49 => (by exfalso; omega))
      refine z_al0 eX12_renew_56 hR.ne ?_
      refine z_bipush eX12_renew_57 (by decide) ?_
      refine z_iconst eX12_renew_59 ?_
      refine z_il1 eX12_renew_60 ?_
      refine z_imul eX12_renew_61 ?_
      refine z_iadd eX12_renew_62 ?_
      refine z_iconst eX12_renew_63 ?_
      refine z_iadd eX12_renew_64 ?_
      refine z_iconst eX12_renew_65 ?_
      refine z_V2 eX12_renew_66 vX12_341 rfl rfl (Nat.le_of_ble_eq_true rfl) (Nat.le_of_ble_eq_true rfl) hR.x (m_X12_sets' hR ha ⟨by omega, by omega⟩) ?_
      refine z_ireturn eX12_renew_69 rfl ?_
      first | (rw [qThr2_0 h6 h34, if_pos rfl, if_pos rfl]; exact ⟨rfl, rfl, rfl, rfl⟩) | (rw [qThr2_2 h6 h34, if_neg (by decide), if_neg (by decide)]; exact ⟨rfl, rfl, rfl, rfl⟩) | (rw [qThr2_1 h6, if_neg (by decide), if_neg (by decide)]; exact ⟨rfl, rfl, rfl, rfl⟩)
    · refine z_iconst eX12_renew_37 ?_
      refine z_goto eX12_renew_38 (tgt := 42) rfl ?_
      refine z_rp (j := 0) lX12_48 eX12_renew_42 rfl hR rfl rfl ?_
      rw [zset_zset]
      refine z_al0 eX12_renew_45 hR.ne ?_
      refine z_rg (j := 0) lX12_48 eX12_renew_46 rfl hR rfl rfl ?_
      rw [zset_eq]
      refine z_if_le (tgt := 56) eX12_renew_49 rfl ⟨by omega, by omega⟩ (fun h49 => (by exfalso; omega)) (fun h49 => ?_)
      refine z_iconst eX12_renew_52 ?_
      refine z_goto eX12_renew_53 (tgt := 69) rfl ?_
      refine z_ireturn eX12_renew_69 rfl ?_
      first | (rw [qThr2_0 h6 h34, if_pos rfl, if_pos rfl]; exact ⟨rfl, rfl, rfl, rfl⟩) | (rw [qThr2_2 h6 h34, if_neg (by decide), if_neg (by decide)]; exact ⟨rfl, rfl, rfl, rfl⟩) | (rw [qThr2_1 h6, if_neg (by decide), if_neg (by decide)]; exact ⟨rfl, rfl, rfl, rfl⟩)
  · refine z_iconst eX12_renew_9 ?_
    refine z_goto eX12_renew_10 (tgt := 14) rfl ?_
    refine z_rp (j := 0) lX12_48 eX12_renew_14 rfl hR rfl rfl ?_
    refine z_al0 eX12_renew_17 hR.ne ?_
    refine z_rg (j := 0) lX12_48 eX12_renew_18 rfl hR rfl rfl ?_
    rw [zset_eq]
    refine z_if_le (tgt := 26) eX12_renew_21 rfl ⟨by omega, by omega⟩ (fun h21 => (by exfalso; omega)) (fun h21 => ?_)
    refine z_iconst eX12_renew_24 ?_
    refine z_ireturn eX12_renew_25 rfl ?_
    first | (rw [qThr2_0 h6 h34, if_pos rfl, if_pos rfl]; exact ⟨rfl, rfl, rfl, rfl⟩) | (rw [qThr2_2 h6 h34, if_neg (by decide), if_neg (by decide)]; exact ⟨rfl, rfl, rfl, rfl⟩) | (rw [qThr2_1 h6, if_neg (by decide), if_neg (by decide)]; exact ⟨rfl, rfl, rfl, rfl⟩)
