/-! A number of the row is told. -/
theorem qRem_1 {σ : zMem} : qRem σ 1 = σ 1 := by
  have e : qRem1 σ 1 = σ 1 := by
    unfold qRem1
    split
    · rw [zset_o (by decide), zRow_o (by decide)]
    · rfl
  unfold qRem qRem2
  rw [zset_o (by decide), zRow_o (by decide), e]
theorem m_X12_sets {G : zG} {lay : zLay} {σ C0 : zMem} {nx x : Int} {w v : Int} (hR : RefL lay x) (ha : 0 ≤ σ 0 6 ∧ σ 0 6 ≤ 12) (hw : 0 ≤ w ∧ w < 826) : zMM G 2 KX12_sets [zP x, zI w, zI v] lay (rC x σ C0) nx (0, 0) (zR (some (zI (σ 1 w))) lay (rC x (zset (qRem σ) 1 w v) C0) nx) := by
  refine z_met' (L := [zP x, zI w, zI v, zU]) gX12_sets.1 rfl rfl (Nat.le_of_ble_eq_true rfl) rfl ?_
  refine z_al0 eX12_sets_0 hR.ne ?_
  refine z_V0v eX12_sets_1 vX12_335 rfl rfl (Nat.le_of_ble_eq_true rfl) (Nat.le_of_ble_eq_true rfl) hR.x (m_X12_remembers hR ha) ?_
  refine z_al0 eX12_sets_4 hR.ne ?_
  refine z_ra lX12_7 eX12_sets_5 rfl hR rfl ?_
  refine z_il1 eX12_sets_8 ?_
  refine z_rl eX12_sets_9 hR (by decide) rfl rfl ⟨by omega, by omega⟩ ?_
  rw [qRem_1]
  refine z_is3 eX12_sets_10 (Nat.ne_of_beq_eq_false rfl) ?_
  refine z_al0 eX12_sets_11 hR.ne ?_
  refine z_ra lX12_7 eX12_sets_12 rfl hR rfl ?_
  refine z_il1 eX12_sets_15 ?_
  refine z_il2 eX12_sets_16 ?_
  refine z_rs eX12_sets_17 hR (by decide) rfl rfl ⟨by omega, by omega⟩ ?_
  refine z_il3 eX12_sets_18 ?_
  refine z_ireturn eX12_sets_19 rfl ?_
  first | exact ⟨rfl, rfl, rfl, rfl⟩ | exact zRb1 (by omega) | exact zRb0 (by omega) | exact zRe (by omega)
/-- a number of the row is told, and nothing thrown -/
def qSets (σ : zMem) (w v : Int) : zMem := zset (qRem (zset σ 0 0 0)) 1 w v
theorem m_X12_sets' {G : zG} {lay : zLay} {σ C0 : zMem} {nx x w v : Int} (hR : RefL lay x) (ha : 0 ≤ σ 0 6 ∧ σ 0 6 ≤ 12) (hw : 0 ≤ w ∧ w < 826) : zMM G 2 KX12_sets [zP x, zI w, zI v] lay (rC x (zset σ 0 0 0) C0) nx (0, 0) (zR (some (zI (σ 1 w))) lay (rC x (qSets σ w v) C0) nx) := by
  have e : zset σ 0 0 0 0 6 = σ 0 6 := by simp [zset_at]
  have e1 : zset σ 0 0 0 1 = σ 1 := zset_o (by decide)
  have := m_X12_sets (G := G) (C0 := C0) (nx := nx) (σ := zset σ 0 0 0) (v := v) hR (by rw [e]; exact ha) hw
  rw [e1] at this
  exact this
theorem m_X12_seat {G : zG} {lay : zLay} {σ C0 : zMem} {nx x : Int} {p n : Int} (hR : RefL lay x) (ha : 0 ≤ σ 0 6 ∧ σ 0 6 ≤ 12) (hp : zin p) (hn : zin n) (hm : 0 ≤ σ 1 3 ∧ σ 1 3 ≤ 7) : zMM G 3 KX12_seat [zP x, zI p, zI n] lay (rC x σ C0) nx (0, 0) (zR (some (zI (if qThr2 (0 ≤ p ∧ p < σ 1 3) (0 ≤ n ∧ n ≤ 20) = 0 then σ 1 (46 + 4 * p + 1) else 0))) lay (rC x ((if qThr2 (0 ≤ p ∧ p < σ 1 3) (0 ≤ n ∧ n ≤ 20) = 0 then qSets σ (46 + 4 * p + 1) n else zset σ 0 0 (qThr2 (0 ≤ p ∧ p < σ 1 3) (0 ≤ n ∧ n ≤ 20)))) C0) nx) := by
  refine z_met' (L := [zP x, zI p, zI n]) gX12_seat.1 rfl rfl (Nat.le_of_ble_eq_true rfl) rfl ?_
  obtain ⟨p1, p2⟩ := hp
  obtain ⟨n1, n2⟩ := hn
  refine z_al0 eX12_seat_0 hR.ne ?_
  refine z_al0 eX12_seat_1 hR.ne ?_
  refine z_il1 eX12_seat_2 ?_
  refine z_V1 eX12_seat_3 vX12_317 rfl rfl (Nat.le_of_ble_eq_true rfl) (Nat.le_of_ble_eq_true rfl) hR.x (m_X12_isMember hR ⟨by omega, by omega⟩ hm) ?_
  refine z_ifb_ne (tgt := 13) eX12_seat_6 rfl (fun h6 => ?_) (fun h6 => ?_)
  · refine z_il2 eX12_seat_13 ?_
    refine z_iconst eX12_seat_14 ?_
    refine z_bipush eX12_seat_15 (by decide) ?_
    refine z_S3 eX12_seat_17 vX12_51 rfl rfl (Nat.le_of_ble_eq_true rfl) (Nat.le_of_ble_eq_true rfl) (m_X12_isIn (by refine ⟨?_, ?_, ?_⟩ <;> first | omega | decide | assumption)) ?_
    refine z_ifb_ne (tgt := 27) eX12_seat_20 rfl (fun h20 => ?_) (fun h20 => ?_)
    · refine z_iconst eX12_seat_27 ?_
      refine z_rp (j := 0) lX12_48 eX12_seat_28 rfl hR rfl rfl ?_
      refine z_al0 eX12_seat_31 hR.ne ?_
      refine z_rg (j := 0) lX12_48 eX12_seat_32 rfl hR rfl rfl ?_
      rw [zset_eq]
      refine z_if_le (tgt := 42) eX12_seat_35 rfl ⟨by omega, by omega⟩ (fun h35 => ?_) (fun h35 => (by exfalso; omega))
      refine z_al0 eX12_seat_42 hR.ne ?_
      refine z_bipush eX12_seat_43 (by decide) ?_
      refine z_iconst eX12_seat_45 ?_
      refine z_il1 eX12_seat_46 ?_
      refine z_imul eX12_seat_47 ?_
      refine z_iadd eX12_seat_48 ?_
      refine z_iconst eX12_seat_49 ?_
      refine z_iadd eX12_seat_50 ?_
      refine z_il2 eX12_seat_51 ?_
      refine z_V2 eX12_seat_52 vX12_341 rfl rfl (Nat.le_of_ble_eq_true rfl) (Nat.le_of_ble_eq_true rfl) hR.x (m_X12_sets' hR ha ⟨by omega, by omega⟩) ?_
      refine z_ireturn eX12_seat_55 rfl ?_
      first | (rw [qThr2_0 h6 h20, if_pos rfl, if_pos rfl]; exact ⟨rfl, rfl, rfl, rfl⟩) | (rw [qThr2_2 h6 h20, if_neg (by decide), if_neg (by decide)]; exact ⟨rfl, rfl, rfl, rfl⟩) | (rw [qThr2_1 h6, if_neg (by decide), if_neg (by decide)]; exact ⟨rfl, rfl, rfl, rfl⟩)
    · refine z_iconst eX12_seat_23 ?_
      refine z_goto eX12_seat_24 (tgt := 28) rfl ?_
      refine z_rp (j := 0) lX12_48 eX12_seat_28 rfl hR rfl rfl ?_
      refine z_al0 eX12_seat_31 hR.ne ?_
      refine z_rg (j := 0) lX12_48 eX12_seat_32 rfl hR rfl rfl ?_
      rw [zset_eq]
      refine z_if_le (tgt := 42) eX12_seat_35 rfl ⟨by omega, by omega⟩ (fun h35 => (by exfalso; omega)) (fun h35 => ?_)
      refine z_iconst eX12_seat_38 ?_
      refine z_goto eX12_seat_39 (tgt := 55) rfl ?_
      refine z_ireturn eX12_seat_55 rfl ?_
      first | (rw [qThr2_0 h6 h20, if_pos rfl, if_pos rfl]; exact ⟨rfl, rfl, rfl, rfl⟩) | (rw [qThr2_2 h6 h20, if_neg (by decide), if_neg (by decide)]; exact ⟨rfl, rfl, rfl, rfl⟩) | (rw [qThr2_1 h6, if_neg (by decide), if_neg (by decide)]; exact ⟨rfl, rfl, rfl, rfl⟩)
  · refine z_iconst eX12_seat_9 ?_
    refine z_goto eX12_seat_10 (tgt := 28) rfl ?_
    refine z_rp (j := 0) lX12_48 eX12_seat_28 rfl hR rfl rfl ?_
    refine z_al0 eX12_seat_31 hR.ne ?_
    refine z_rg (j := 0) lX12_48 eX12_seat_32 rfl hR rfl rfl ?_
    rw [zset_eq]
    refine z_if_le (tgt := 42) eX12_seat_35 rfl ⟨by omega, by omega⟩ (fun h35 => (by exfalso; omega)) (fun h35 => ?_)
    refine z_iconst eX12_seat_38 ?_
    refine z_goto eX12_seat_39 (tgt := 55) rfl ?_
    refine z_ireturn eX12_seat_55 rfl ?_
    first | (rw [qThr2_0 h6 h20, if_pos rfl, if_pos rfl]; exact ⟨rfl, rfl, rfl, rfl⟩) | (rw [qThr2_2 h6 h20, if_neg (by decide), if_neg (by decide)]; exact ⟨rfl, rfl, rfl, rfl⟩) | (rw [qThr2_1 h6, if_neg (by decide), if_neg (by decide)]; exact ⟨rfl, rfl, rfl, rfl⟩)
