/-! The reference's small methods. -/
abbrev zin3 (a b c : Int) : Prop := zin a ∧ zin b ∧ zin c
theorem m_X12_isIn {G : zG} {lay : zLay} {σ C0 : zMem} {nx x : Int} {v a c : Int} (h : zin3 v a c) : zMM G 1 KX12_isIn [zI v, zI a, zI c] lay (rC x σ C0) nx (0, 0) (zR (some (zI (zbi (a ≤ v ∧ v ≤ c)))) lay (rC x σ C0) nx) := by
  refine z_met' (L := [zI v, zI a, zI c]) gX12_isIn.1 rfl rfl (Nat.le_of_ble_eq_true rfl) rfl ?_
  obtain ⟨⟨h1, h2⟩, ⟨h3, h4⟩, ⟨h5, h6⟩⟩ := h
  refine z_il0 eX12_isIn_0 ?_
  refine z_il1 eX12_isIn_1 ?_
  refine z_icmp_lt (tgt := 14) eX12_isIn_2 rfl ⟨⟨by omega, by omega⟩, ⟨by omega, by omega⟩⟩ (fun h2 => ?_) (fun h2 => ?_)
  · refine z_iconst eX12_isIn_14 ?_
    refine z_zreturn eX12_isIn_15 rfl (by first | exact Or.inl rfl | exact Or.inr rfl | exact zbi_01 _ | assumption | omega) ?_
    first | exact ⟨rfl, rfl, rfl, rfl⟩ | exact zRb1 (by omega) | exact zRb0 (by omega) | exact zRe (by omega)
  · refine z_il0 eX12_isIn_5 ?_
    refine z_il2 eX12_isIn_6 ?_
    refine z_icmp_gt (tgt := 14) eX12_isIn_7 rfl ⟨⟨by omega, by omega⟩, ⟨by omega, by omega⟩⟩ (fun h7 => ?_) (fun h7 => ?_)
    · refine z_iconst eX12_isIn_14 ?_
      refine z_zreturn eX12_isIn_15 rfl (by first | exact Or.inl rfl | exact Or.inr rfl | exact zbi_01 _ | assumption | omega) ?_
      first | exact ⟨rfl, rfl, rfl, rfl⟩ | exact zRb1 (by omega) | exact zRb0 (by omega) | exact zRe (by omega)
    · refine z_iconst eX12_isIn_10 ?_
      refine z_goto eX12_isIn_11 (tgt := 15) rfl ?_
      refine z_zreturn eX12_isIn_15 rfl (by first | exact Or.inl rfl | exact Or.inr rfl | exact zbi_01 _ | assumption | omega) ?_
      first | exact ⟨rfl, rfl, rfl, rfl⟩ | exact zRb1 (by omega) | exact zRb0 (by omega) | exact zRe (by omega)
theorem m_X12_lesser {G : zG} {lay : zLay} {σ C0 : zMem} {nx x : Int} {a c : Int} (h : zin a ∧ zin c) : zMM G 1 KX12_lesser [zI a, zI c] lay (rC x σ C0) nx (0, 0) (zR (some (zI (if a < c then a else c))) lay (rC x σ C0) nx) := by
  refine z_met' (L := [zI a, zI c]) gX12_lesser.1 rfl rfl (Nat.le_of_ble_eq_true rfl) rfl ?_
  obtain ⟨⟨h1, h2⟩, ⟨h3, h4⟩⟩ := h
  refine z_il0 eX12_lesser_0 ?_
  refine z_il1 eX12_lesser_1 ?_
  refine z_icmp_ge (tgt := 9) eX12_lesser_2 rfl ⟨⟨by omega, by omega⟩, ⟨by omega, by omega⟩⟩ (fun h2 => ?_) (fun h2 => ?_)
  · refine z_il1 eX12_lesser_9 ?_
    refine z_ireturn eX12_lesser_10 rfl ?_
    exact zRe (by split <;> omega)
  · refine z_il0 eX12_lesser_5 ?_
    refine z_goto eX12_lesser_6 (tgt := 10) rfl ?_
    refine z_ireturn eX12_lesser_10 rfl ?_
    exact zRe (by split <;> omega)
theorem m_X12_greater {G : zG} {lay : zLay} {σ C0 : zMem} {nx x : Int} {a c : Int} (h : zin a ∧ zin c) : zMM G 1 KX12_greater [zI a, zI c] lay (rC x σ C0) nx (0, 0) (zR (some (zI (if c < a then a else c))) lay (rC x σ C0) nx) := by
  refine z_met' (L := [zI a, zI c]) gX12_greater.1 rfl rfl (Nat.le_of_ble_eq_true rfl) rfl ?_
  obtain ⟨⟨h1, h2⟩, ⟨h3, h4⟩⟩ := h
  refine z_il0 eX12_greater_0 ?_
  refine z_il1 eX12_greater_1 ?_
  refine z_icmp_le (tgt := 9) eX12_greater_2 rfl ⟨⟨by omega, by omega⟩, ⟨by omega, by omega⟩⟩ (fun h2 => ?_) (fun h2 => ?_)
  · refine z_il1 eX12_greater_9 ?_
    refine z_ireturn eX12_greater_10 rfl ?_
    exact zRe (by split <;> omega)
  · refine z_il0 eX12_greater_5 ?_
    refine z_goto eX12_greater_6 (tgt := 10) rfl ?_
    refine z_ireturn eX12_greater_10 rfl ?_
    exact zRe (by split <;> omega)
/-- bit k of a set -/
def zbit (s k : Int) : Int := zand (zshr s k) 1
theorem m_X12_isOf {G : zG} {lay : zLay} {σ C0 : zMem} {nx x : Int} {s t : Int} : zMM G 1 KX12_isOf [zI s, zI t] lay (rC x σ C0) nx (0, 0) (zR (some (zI (zbi (zbit s t = 1)))) lay (rC x σ C0) nx) := by
  refine z_met' (L := [zI s, zI t]) gX12_isOf.1 rfl rfl (Nat.le_of_ble_eq_true rfl) rfl ?_
  have hz : zin (zand (zshr s t) 1) := zand_in _ _
  refine z_il0 eX12_isOf_0 ?_
  refine z_il1 eX12_isOf_1 ?_
  refine z_ishr eX12_isOf_2 ?_
  refine z_iconst eX12_isOf_3 ?_
  refine z_iand eX12_isOf_4 ?_
  refine z_iconst eX12_isOf_5 ?_
  refine z_icmp_ne (tgt := 13) eX12_isOf_6 rfl ⟨hz, by decide⟩ (fun h6 => ?_) (fun h6 => ?_)
  · refine z_iconst eX12_isOf_13 ?_
    refine z_zreturn eX12_isOf_14 rfl (by first | exact Or.inl rfl | exact Or.inr rfl | exact zbi_01 _ | assumption | omega) ?_
    first | exact zRb1 (by unfold zbit; assumption) | exact zRb0 (by unfold zbit; assumption)
  · refine z_iconst eX12_isOf_9 ?_
    refine z_goto eX12_isOf_10 (tgt := 14) rfl ?_
    refine z_zreturn eX12_isOf_14 rfl (by first | exact Or.inl rfl | exact Or.inr rfl | exact zbi_01 _ | assumption | omega) ?_
    first | exact zRb1 (by unfold zbit; assumption) | exact zRb0 (by unfold zbit; assumption)
theorem m_X12_of {G : zG} {lay : zLay} {σ C0 : zMem} {nx x : Int} {t w : Int} (hR : RefL lay x) (ht : 0 ≤ t ∧ t < 7) (hw : 0 ≤ w ∧ w < 4) : zMM G 1 KX12_of [zP x, zI t, zI w] lay (rC x σ C0) nx (0, 0) (zR (some (zI (σ 1 (46 + 4 * t + w)))) lay (rC x σ C0) nx) := by
  refine z_met' (L := [zP x, zI t, zI w]) gX12_of.1 rfl rfl (Nat.le_of_ble_eq_true rfl) rfl ?_
  refine z_al0 eX12_of_0 hR.ne ?_
  refine z_ra lX12_7 eX12_of_1 rfl hR rfl ?_
  refine z_bipush eX12_of_4 (by decide) ?_
  refine z_iconst eX12_of_6 ?_
  refine z_il1 eX12_of_7 ?_
  refine z_imul eX12_of_8 ?_
  refine z_iadd eX12_of_9 ?_
  refine z_il2 eX12_of_10 ?_
  refine z_iadd eX12_of_11 ?_
  refine z_rl eX12_of_12 hR (by decide) rfl rfl ⟨by omega, by omega⟩ ?_
  refine z_ireturn eX12_of_13 rfl ?_
  first | exact ⟨rfl, rfl, rfl, rfl⟩ | exact zRb1 (by omega) | exact zRb0 (by omega) | exact zRe (by omega)
theorem m_X12_ofMotion {G : zG} {lay : zLay} {σ C0 : zMem} {nx x : Int} {t w : Int} (hR : RefL lay x) (ht : 0 ≤ t ∧ t < 8) (hw : 0 ≤ w ∧ w < 5) : zMM G 1 KX12_ofMotion [zP x, zI t, zI w] lay (rC x σ C0) nx (0, 0) (zR (some (zI (σ 1 (74 + 5 * t + w)))) lay (rC x σ C0) nx) := by
  refine z_met' (L := [zP x, zI t, zI w]) gX12_ofMotion.1 rfl rfl (Nat.le_of_ble_eq_true rfl) rfl ?_
  refine z_al0 eX12_ofMotion_0 hR.ne ?_
  refine z_ra lX12_7 eX12_ofMotion_1 rfl hR rfl ?_
  refine z_bipush eX12_ofMotion_4 (by decide) ?_
  refine z_iconst eX12_ofMotion_6 ?_
  refine z_il1 eX12_ofMotion_7 ?_
  refine z_imul eX12_ofMotion_8 ?_
  refine z_iadd eX12_ofMotion_9 ?_
  refine z_il2 eX12_ofMotion_10 ?_
  refine z_iadd eX12_ofMotion_11 ?_
  refine z_rl eX12_ofMotion_12 hR (by decide) rfl rfl ⟨by omega, by omega⟩ ?_
  refine z_ireturn eX12_ofMotion_13 rfl ?_
  first | exact ⟨rfl, rfl, rfl, rfl⟩ | exact zRb1 (by omega) | exact zRb0 (by omega) | exact zRe (by omega)
theorem m_X12_thrown {G : zG} {lay : zLay} {σ C0 : zMem} {nx x : Int} (hR : RefL lay x) : zMM G 1 KX12_thrown [zP x] lay (rC x σ C0) nx (0, 0) (zR (some (zI (σ 0 0))) lay (rC x σ C0) nx) := by
  refine z_met' (L := [zP x]) gX12_thrown.1 rfl rfl (Nat.le_of_ble_eq_true rfl) rfl ?_
  refine z_al0 eX12_thrown_0 hR.ne ?_
  refine z_rg (j := 0) lX12_48 eX12_thrown_1 rfl hR rfl rfl ?_
  refine z_ireturn eX12_thrown_4 rfl ?_
  first | exact ⟨rfl, rfl, rfl, rfl⟩ | exact zRb1 (by omega) | exact zRb0 (by omega) | exact zRe (by omega)
theorem m_X12_isMember {G : zG} {lay : zLay} {σ C0 : zMem} {nx x : Int} {t : Int} (hR : RefL lay x) (ht : zin t) (hm : 0 ≤ σ 1 3 ∧ σ 1 3 ≤ 7) : zMM G 2 KX12_isMember [zP x, zI t] lay (rC x σ C0) nx (0, 0) (zR (some (zI (zbi (0 ≤ t ∧ t < σ 1 3)))) lay (rC x σ C0) nx) := by
  refine z_met' (L := [zP x, zI t]) gX12_isMember.1 rfl rfl (Nat.le_of_ble_eq_true rfl) rfl ?_
  refine z_il1 eX12_isMember_0 ?_
  refine z_iconst eX12_isMember_1 ?_
  refine z_al0 eX12_isMember_2 hR.ne ?_
  refine z_ra lX12_7 eX12_isMember_3 rfl hR rfl ?_
  refine z_iconst eX12_isMember_6 ?_
  refine z_rl eX12_isMember_7 hR (by decide) rfl rfl ⟨by omega, by omega⟩ ?_
  refine z_iconst eX12_isMember_8 ?_
  refine z_isub eX12_isMember_9 ?_
  refine z_S3 eX12_isMember_10 vX12_51 rfl rfl (Nat.le_of_ble_eq_true rfl) (Nat.le_of_ble_eq_true rfl) (m_X12_isIn (by refine ⟨?_, ?_, ?_⟩ <;> omega)) ?_
  refine z_zreturn eX12_isMember_13 rfl (by first | exact Or.inl rfl | exact Or.inr rfl | exact zbi_01 _ | assumption | omega) ?_
  exact zRe (zbi_congr (by omega))
theorem m_X12_isMotion {G : zG} {lay : zLay} {σ C0 : zMem} {nx x : Int} {t : Int} (hR : RefL lay x) (ht : zin t) (hm : 0 ≤ σ 1 4 ∧ σ 1 4 ≤ 8) : zMM G 2 KX12_isMotion [zP x, zI t] lay (rC x σ C0) nx (0, 0) (zR (some (zI (zbi (0 ≤ t ∧ t < σ 1 4)))) lay (rC x σ C0) nx) := by
  refine z_met' (L := [zP x, zI t]) gX12_isMotion.1 rfl rfl (Nat.le_of_ble_eq_true rfl) rfl ?_
  refine z_il1 eX12_isMotion_0 ?_
  refine z_iconst eX12_isMotion_1 ?_
  refine z_al0 eX12_isMotion_2 hR.ne ?_
  refine z_ra lX12_7 eX12_isMotion_3 rfl hR rfl ?_
  refine z_iconst eX12_isMotion_6 ?_
  refine z_rl eX12_isMotion_7 hR (by decide) rfl rfl ⟨by omega, by omega⟩ ?_
  refine z_iconst eX12_isMotion_8 ?_
  refine z_isub eX12_isMotion_9 ?_
  refine z_S3 eX12_isMotion_10 vX12_51 rfl rfl (Nat.le_of_ble_eq_true rfl) (Nat.le_of_ble_eq_true rfl) (m_X12_isIn (by refine ⟨?_, ?_, ?_⟩ <;> omega)) ?_
  refine z_zreturn eX12_isMotion_13 rfl (by first | exact Or.inl rfl | exact Or.inr rfl | exact zbi_01 _ | assumption | omega) ?_
  exact zRe (zbi_congr (by omega))
theorem m_X12_isSky {G : zG} {lay : zLay} {σ C0 : zMem} {nx x : Int} {t : Int} (ht : zin t) : zMM G 2 KX12_isSky [zI t] lay (rC x σ C0) nx (0, 0) (zR (some (zI (zbi (0 ≤ t ∧ t < 5)))) lay (rC x σ C0) nx) := by
  refine z_met' (L := [zI t]) gX12_isSky.1 rfl rfl (Nat.le_of_ble_eq_true rfl) rfl ?_
  refine z_il0 eX12_isSky_0 ?_
  refine z_iconst eX12_isSky_1 ?_
  refine z_iconst eX12_isSky_2 ?_
  refine z_S3 eX12_isSky_3 vX12_51 rfl rfl (Nat.le_of_ble_eq_true rfl) (Nat.le_of_ble_eq_true rfl) (m_X12_isIn (by refine ⟨?_, ?_, ?_⟩ <;> omega)) ?_
  refine z_zreturn eX12_isSky_6 rfl (by first | exact Or.inl rfl | exact Or.inr rfl | exact zbi_01 _ | assumption | omega) ?_
  exact zRe (zbi_congr (by omega))
theorem m_X12_isHour {G : zG} {lay : zLay} {σ C0 : zMem} {nx x : Int} {t : Int} (ht : zin t) : zMM G 2 KX12_isHour [zI t] lay (rC x σ C0) nx (0, 0) (zR (some (zI (zbi (0 ≤ t ∧ t < 12)))) lay (rC x σ C0) nx) := by
  refine z_met' (L := [zI t]) gX12_isHour.1 rfl rfl (Nat.le_of_ble_eq_true rfl) rfl ?_
  refine z_il0 eX12_isHour_0 ?_
  refine z_iconst eX12_isHour_1 ?_
  refine z_bipush eX12_isHour_2 (by decide) ?_
  refine z_S3 eX12_isHour_4 vX12_51 rfl rfl (Nat.le_of_ble_eq_true rfl) (Nat.le_of_ble_eq_true rfl) (m_X12_isIn (by refine ⟨?_, ?_, ?_⟩ <;> omega)) ?_
  refine z_zreturn eX12_isHour_7 rfl (by first | exact Or.inl rfl | exact Or.inr rfl | exact zbi_01 _ | assumption | omega) ?_
  exact zRe (zbi_congr (by omega))
theorem m_X12_waits {G : zG} {lay : zLay} {σ C0 : zMem} {nx x : Int} {t : Int} (hR : RefL lay x) (ht : 0 ≤ t ∧ t < 8) (hs : zin (σ 1 (74 + 5 * t + 4))) : zMM G 2 KX12_waits [zP x, zI t] lay (rC x σ C0) nx (0, 0) (zR (some (zI (zbi (σ 1 (74 + 5 * t + 4) = 0)))) lay (rC x σ C0) nx) := by
  refine z_met' (L := [zP x, zI t]) gX12_waits.1 rfl rfl (Nat.le_of_ble_eq_true rfl) rfl ?_
  refine z_al0 eX12_waits_0 hR.ne ?_
  refine z_il1 eX12_waits_1 ?_
  refine z_iconst eX12_waits_2 ?_
  refine z_V2 eX12_waits_3 vX12_55 rfl rfl (Nat.le_of_ble_eq_true rfl) (Nat.le_of_ble_eq_true rfl) hR.x (m_X12_ofMotion hR ht (by decide)) ?_
  refine z_if_ne (tgt := 13) eX12_waits_6 rfl ⟨by omega, by omega⟩ (fun h6 => ?_) (fun h6 => ?_)
  · refine z_iconst eX12_waits_13 ?_
    refine z_zreturn eX12_waits_14 rfl (by first | exact Or.inl rfl | exact Or.inr rfl | exact zbi_01 _ | assumption | omega) ?_
    first | exact ⟨rfl, rfl, rfl, rfl⟩ | exact zRb1 (by omega) | exact zRb0 (by omega) | exact zRe (by omega)
  · refine z_iconst eX12_waits_9 ?_
    refine z_goto eX12_waits_10 (tgt := 14) rfl ?_
    refine z_zreturn eX12_waits_14 rfl (by first | exact Or.inl rfl | exact Or.inr rfl | exact zbi_01 _ | assumption | omega) ?_
    first | exact ⟨rfl, rfl, rfl, rfl⟩ | exact zRb1 (by omega) | exact zRb0 (by omega) | exact zRe (by omega)
theorem m_X12_weight {G : zG} {lay : zLay} {σ C0 : zMem} {nx x : Int} {s t : Int} (hR : RefL lay x) (hs : 0 ≤ s ∧ s < 5) (ht : 0 ≤ t ∧ t < 5) : zMM G 1 KX12_weight [zP x, zI s, zI t] lay (rC x σ C0) nx (0, 0) (zR (some (zI (σ 1 (13 + 5 * s + t)))) lay (rC x σ C0) nx) := by
  refine z_met' (L := [zP x, zI s, zI t]) gX12_weight.1 rfl rfl (Nat.le_of_ble_eq_true rfl) rfl ?_
  refine z_al0 eX12_weight_0 hR.ne ?_
  refine z_ra lX12_7 eX12_weight_1 rfl hR rfl ?_
  refine z_bipush eX12_weight_4 (by decide) ?_
  refine z_iconst eX12_weight_6 ?_
  refine z_il1 eX12_weight_7 ?_
  refine z_imul eX12_weight_8 ?_
  refine z_iadd eX12_weight_9 ?_
  refine z_il2 eX12_weight_10 ?_
  refine z_iadd eX12_weight_11 ?_
  refine z_rl eX12_weight_12 hR (by decide) rfl rfl ⟨by omega, by omega⟩ ?_
  refine z_ireturn eX12_weight_13 rfl ?_
  first | exact ⟨rfl, rfl, rfl, rfl⟩ | exact zRb1 (by omega) | exact zRb0 (by omega) | exact zRe (by omega)
theorem m_X12_weights {G : zG} {lay : zLay} {σ C0 : zMem} {nx x : Int} {s : Int} (hR : RefL lay x) (hs : 0 ≤ s ∧ s < 5) : zMM G 2 KX12_weights [zP x, zI s] lay (rC x σ C0) nx (0, 0) (zR (some (zI (zsum (fun t => σ 1 (13 + 5 * s + t)) 5))) lay (rC x σ C0) nx) := by
  refine z_met' (L := [zP x, zI s, zU, zU]) gX12_weights.1 rfl rfl (Nat.le_of_ble_eq_true rfl) rfl ?_
  have hl : ∀ t : Int, 0 ≤ t → t ≤ 5 → zW G KX12_weights 2 (zR (some (zI (zsum (fun t => σ 1 (13 + 5 * s + t)) 5))) lay (rC x σ C0) nx) 4 [zP x, zI s, zI (zsum (fun t => σ 1 (13 + 5 * s + t)) t), zI t] [] lay (rC x σ C0) nx (0, 0) := by
    refine z_up 5 ?_ ?_
    refine z_il3 eX12_weights_4 ?_
    refine z_iconst eX12_weights_5 ?_
    refine z_icmp_ge (tgt := 24) eX12_weights_6 rfl ⟨⟨by omega, by omega⟩, ⟨by omega, by omega⟩⟩ (fun h6 => ?_) (fun h6 => absurd h6 (by omega))
    refine z_il2 eX12_weights_24 ?_
    refine z_ireturn eX12_weights_25 rfl ?_
    first | exact ⟨rfl, rfl, rfl, rfl⟩ | exact zRb1 (by omega) | exact zRb0 (by omega) | exact zRe (by omega)
    intro t h0 h1 ih
    refine z_il3 eX12_weights_4 ?_
    refine z_iconst eX12_weights_5 ?_
    refine z_icmp_ge (tgt := 24) eX12_weights_6 rfl ⟨⟨by omega, by omega⟩, ⟨by omega, by omega⟩⟩ (fun h6 => (by exfalso; omega)) (fun h6 => ?_)
    refine z_il2 eX12_weights_9 ?_
    refine z_al0 eX12_weights_10 hR.ne ?_
    refine z_il1 eX12_weights_11 ?_
    refine z_il3 eX12_weights_12 ?_
    refine z_V2 eX12_weights_13 vX12_59 rfl rfl (Nat.le_of_ble_eq_true rfl) (Nat.le_of_ble_eq_true rfl) hR.x (m_X12_weight hR hs ⟨h0, h1⟩) ?_
    refine z_iadd eX12_weights_16 ?_
    refine z_is2 eX12_weights_17 (Nat.ne_of_beq_eq_false rfl) ?_
    refine z_ii3 eX12_weights_18 (Nat.ne_of_beq_eq_false rfl) ?_
    refine z_goto eX12_weights_21 (tgt := 4) rfl ?_
    rw [zsum_s _ h0] at ih
    exact ih
  refine z_iconst eX12_weights_0 ?_
  refine z_is2 eX12_weights_1 (Nat.ne_of_beq_eq_false rfl) ?_
  refine z_iconst eX12_weights_2 ?_
  refine z_is3 eX12_weights_3 (Nat.ne_of_beq_eq_false rfl) ?_
  exact hl 0 (by omega) (by omega)
