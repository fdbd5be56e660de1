/-! A motion onto the paper; a mind. -/
/-- a motion stands in an hour of the paper: the numbers -/
def qTable (σ : zMem) (k h : Int) : zMem := if qstands (σ 1) k 12 = -1 ∨ qstands (σ 1) k 12 = h then qSets σ (114 + h) k else zset (qSets σ (114 + h) k) 1 (114 + qstands (σ 1) k 12) (-1)
theorem m_X12_table {G : zG} {lay : zLay} {σ C0 : zMem} {nx x : Int} {k h : Int} (hR : RefL lay x) (ha : 0 ≤ σ 0 6 ∧ σ 0 6 ≤ 12) (hk : zin k) (hh : zin h) (hM : zOK (σ 1)) : zMM G 3 KX12_table [zP x, zI k, zI h] lay (rC x σ C0) nx (0, 0) (zR (some (zI (if qThr2 ((0 ≤ k ∧ k < σ 1 4) ∧ 0 ≤ h ∧ h < 12) (σ 1 (74 + 5 * k + 4) = 0) = 0 then σ 1 (114 + h) else 0))) lay (rC x ((if qThr2 ((0 ≤ k ∧ k < σ 1 4) ∧ 0 ≤ h ∧ h < 12) (σ 1 (74 + 5 * k + 4) = 0) = 0 then qTable σ k h else zset σ 0 0 (qThr2 ((0 ≤ k ∧ k < σ 1 4) ∧ 0 ≤ h ∧ h < 12) (σ 1 (74 + 5 * k + 4) = 0)))) C0) nx) := by
  refine z_met' (L := [zP x, zI k, zI h, zU, zU]) gX12_table.1 rfl rfl (Nat.le_of_ble_eq_true rfl) rfl ?_
  obtain ⟨p1, p2⟩ := hk
  obtain ⟨q1, q2⟩ := hh
  have hm := hM.1.m4
  have e1 : ∀ v, zset σ 0 0 v 1 = σ 1 := fun v => zset_o (by decide)
  have hs := hM.1.P
  have hst : 0 ≤ k ∧ k < σ 1 4 → zin (σ 1 (74 + 5 * k + 4)) := fun z => by
    have := hM.1.st (k := k) ⟨z.1, by omega⟩
    exact ⟨by omega, by omega⟩
  have hsb := qstands_bd (M := σ 1) (t := k) 12
  rw [show ((12 : Nat) : Int) = 12 from rfl] at hsb
  refine z_al0 eX12_table_0 hR.ne ?_
  refine z_al0 eX12_table_1 hR.ne ?_
  refine z_il1 eX12_table_2 ?_
  refine z_V1 eX12_table_3 vX12_326 rfl rfl (Nat.le_of_ble_eq_true rfl) (Nat.le_of_ble_eq_true rfl) hR.x (m_X12_isMotion hR ⟨by omega, by omega⟩ hm) ?_
  refine z_ifb_eq (tgt := 16) eX12_table_6 rfl (fun h6 => ?_) (fun h6 => ?_)
  · refine z_iconst eX12_table_16 ?_
    refine z_goto eX12_table_17 (tgt := 21) rfl ?_
    refine z_rp (j := 0) lX12_48 eX12_table_21 rfl hR rfl rfl ?_
    refine z_al0 eX12_table_24 hR.ne ?_
    refine z_rg (j := 0) lX12_48 eX12_table_25 rfl hR rfl rfl ?_
    rw [zset_eq]
    refine z_if_le (tgt := 33) eX12_table_28 rfl ⟨by omega, by omega⟩ (fun h28 => (by exfalso; omega)) (fun h28 => ?_)
    refine z_iconst eX12_table_31 ?_
    refine z_ireturn eX12_table_32 rfl ?_
    first | (rw [qThr2_1 (fun z => h13 z.2), if_neg (by decide), if_neg (by decide)]; exact ⟨rfl, rfl, rfl, rfl⟩) | (rw [qThr2_1 (fun z => h6 z.1), if_neg (by decide), if_neg (by decide)]; exact ⟨rfl, rfl, rfl, rfl⟩)
  · refine z_il2 eX12_table_9 ?_
    refine z_S1 eX12_table_10 vX12_332 rfl rfl (Nat.le_of_ble_eq_true rfl) (Nat.le_of_ble_eq_true rfl) (m_X12_isHour ⟨by omega, by omega⟩) ?_
    refine z_ifb_ne (tgt := 20) eX12_table_13 rfl (fun h13 => ?_) (fun h13 => ?_)
    · refine z_iconst eX12_table_20 ?_
      refine z_rp (j := 0) lX12_48 eX12_table_21 rfl hR rfl rfl ?_
      refine z_al0 eX12_table_24 hR.ne ?_
      refine z_rg (j := 0) lX12_48 eX12_table_25 rfl hR rfl rfl ?_
      rw [zset_eq]
      refine z_if_le (tgt := 33) eX12_table_28 rfl ⟨by omega, by omega⟩ (fun h28 => ?_) (fun h28 => (by exfalso; omega))
      refine z_al0 eX12_table_33 hR.ne ?_
      refine z_al0 eX12_table_34 hR.ne ?_
      refine z_il1 eX12_table_35 ?_
      refine z_V1 eX12_table_36 vX12_308 rfl rfl (Nat.le_of_ble_eq_true rfl) (Nat.le_of_ble_eq_true rfl) hR.x (m_X12_waits hR ⟨by omega, by omega⟩ (by rw [e1]; exact hst h6)) ?_
      rw [e1]
      refine z_ifb_ne (tgt := 46) eX12_table_39 rfl (fun h39 => ?_) (fun h39 => ?_)
      · refine z_iconst eX12_table_46 ?_
        refine z_rp (j := 0) lX12_48 eX12_table_47 rfl hR rfl rfl ?_
        rw [zset_zset]
        refine z_al0 eX12_table_50 hR.ne ?_
        refine z_rg (j := 0) lX12_48 eX12_table_51 rfl hR rfl rfl ?_
        rw [zset_eq]
        refine z_if_le (tgt := 59) eX12_table_54 rfl ⟨by omega, by omega⟩ (fun h54 => ?_) (fun h54 => (by exfalso; omega))
        refine z_al0 eX12_table_59 hR.ne ?_
        refine z_il1 eX12_table_60 ?_
        refine z_V1 eX12_table_61 vX12_144 rfl rfl (Nat.le_of_ble_eq_true rfl) (Nat.le_of_ble_eq_true rfl) hR.x (m_X12_standsIn hR ⟨by omega, by omega⟩ (by rw [e1]; exact hs)) ?_
        rw [e1]
        refine z_is3 eX12_table_64 (Nat.ne_of_beq_eq_false rfl) ?_
        refine z_al0 eX12_table_65 hR.ne ?_
        refine z_bipush eX12_table_66 (by decide) ?_
        refine z_il2 eX12_table_68 ?_
        refine z_iadd eX12_table_69 ?_
        refine z_il1 eX12_table_70 ?_
        refine z_V2 eX12_table_71 vX12_341 rfl rfl (Nat.le_of_ble_eq_true rfl) (Nat.le_of_ble_eq_true rfl) hR.x (m_X12_sets' hR ha ⟨by omega, by omega⟩) ?_
        refine z_is4 eX12_table_74 (Nat.ne_of_beq_eq_false rfl) ?_
        refine z_il3 eX12_table_76 ?_
        refine z_iconst eX12_table_77 ?_
        refine z_icmp_eq (tgt := 96) eX12_table_78 rfl ⟨⟨by omega, by omega⟩, ⟨by omega, by omega⟩⟩ (fun h78 => ?_) (fun h78 => ?_)
        · refine z_il4 eX12_table_96 ?_
          refine z_ireturn eX12_table_98 rfl ?_
          rw [qThr2_0 ⟨h6, h13⟩ h39, if_pos rfl, if_pos rfl]; unfold qTable; first | (rw [if_pos (Or.inl h78)]; exact ⟨rfl, rfl, rfl, rfl⟩) | (rw [if_pos (Or.inr h83)]; exact ⟨rfl, rfl, rfl, rfl⟩) | (rw [if_neg (fun z => z.elim h78 h83)]; exact ⟨rfl, rfl, rfl, rfl⟩)
        · refine z_il3 eX12_table_81 ?_
          refine z_il2 eX12_table_82 ?_
          refine z_icmp_eq (tgt := 96) eX12_table_83 rfl ⟨⟨by omega, by omega⟩, ⟨by omega, by omega⟩⟩ (fun h83 => ?_) (fun h83 => ?_)
          · refine z_il4 eX12_table_96 ?_
            refine z_ireturn eX12_table_98 rfl ?_
            rw [qThr2_0 ⟨h6, h13⟩ h39, if_pos rfl, if_pos rfl]; unfold qTable; first | (rw [if_pos (Or.inl h78)]; exact ⟨rfl, rfl, rfl, rfl⟩) | (rw [if_pos (Or.inr h83)]; exact ⟨rfl, rfl, rfl, rfl⟩) | (rw [if_neg (fun z => z.elim h78 h83)]; exact ⟨rfl, rfl, rfl, rfl⟩)
          · refine z_al0 eX12_table_86 hR.ne ?_
            refine z_ra lX12_7 eX12_table_87 rfl hR rfl ?_
            refine z_bipush eX12_table_90 (by decide) ?_
            refine z_il3 eX12_table_92 ?_
            refine z_iadd eX12_table_93 ?_
            refine z_iconst eX12_table_94 ?_
            refine z_rs eX12_table_95 hR (by decide) rfl rfl ⟨by omega, by omega⟩ ?_
            refine z_il4 eX12_table_96 ?_
            refine z_ireturn eX12_table_98 rfl ?_
            rw [qThr2_0 ⟨h6, h13⟩ h39, if_pos rfl, if_pos rfl]; unfold qTable; first | (rw [if_pos (Or.inl h78)]; exact ⟨rfl, rfl, rfl, rfl⟩) | (rw [if_pos (Or.inr h83)]; exact ⟨rfl, rfl, rfl, rfl⟩) | (rw [if_neg (fun z => z.elim h78 h83)]; exact ⟨rfl, rfl, rfl, rfl⟩)
      · refine z_iconst eX12_table_42 ?_
        refine z_goto eX12_table_43 (tgt := 47) rfl ?_
        refine z_rp (j := 0) lX12_48 eX12_table_47 rfl hR rfl rfl ?_
        rw [zset_zset]
        refine z_al0 eX12_table_50 hR.ne ?_
        refine z_rg (j := 0) lX12_48 eX12_table_51 rfl hR rfl rfl ?_
        rw [zset_eq]
        refine z_if_le (tgt := 59) eX12_table_54 rfl ⟨by omega, by omega⟩ (fun h54 => (by exfalso; omega)) (fun h54 => ?_)
        refine z_iconst eX12_table_57 ?_
        refine z_ireturn eX12_table_58 rfl ?_
        rw [qThr2_2 ⟨h6, h13⟩ h39, if_neg (by decide), if_neg (by decide)]; exact ⟨rfl, rfl, rfl, rfl⟩
    · refine z_iconst eX12_table_16 ?_
      refine z_goto eX12_table_17 (tgt := 21) rfl ?_
      refine z_rp (j := 0) lX12_48 eX12_table_21 rfl hR rfl rfl ?_
      refine z_al0 eX12_table_24 hR.ne ?_
      refine z_rg (j := 0) lX12_48 eX12_table_25 rfl hR rfl rfl ?_
      rw [zset_eq]
      refine z_if_le (tgt := 33) eX12_table_28 rfl ⟨by omega, by omega⟩ (fun h28 => (by exfalso; omega)) (fun h28 => ?_)
      refine z_iconst eX12_table_31 ?_
      refine z_ireturn eX12_table_32 rfl ?_
      first | (rw [qThr2_1 (fun z => h13 z.2), if_neg (by decide), if_neg (by decide)]; exact ⟨rfl, rfl, rfl, rfl⟩) | (rw [qThr2_1 (fun z => h6 z.1), if_neg (by decide), if_neg (by decide)]; exact ⟨rfl, rfl, rfl, rfl⟩)
theorem m_X12_mind {G : zG} {lay : zLay} {σ C0 : zMem} {nx x : Int} {p k : Int} (hR : RefL lay x) (ha : 0 ≤ σ 0 6 ∧ σ 0 6 ≤ 12) (hp : zin p) (hk : zin k) (hM : zOK (σ 1)) : zMM G 3 KX12_mind [zP x, zI p, zI k] lay (rC x σ C0) nx (0, 0) (zR (some (zI (zbi (qThr2 ((0 ≤ p ∧ p < σ 1 3) ∧ 0 ≤ k ∧ k < σ 1 4) (σ 1 (74 + 5 * k + 4) = 0) = 0 ∧ ¬ zbit (σ 1 (74 + 5 * k + 3)) p = 1)))) lay (rC x ((if qThr2 ((0 ≤ p ∧ p < σ 1 3) ∧ 0 ≤ k ∧ k < σ 1 4) (σ 1 (74 + 5 * k + 4) = 0) = 0 then qSets σ (74 + 5 * k + 3) (zxor (σ 1 (74 + 5 * k + 3)) (zshl 1 p)) else zset σ 0 0 (qThr2 ((0 ≤ p ∧ p < σ 1 3) ∧ 0 ≤ k ∧ k < σ 1 4) (σ 1 (74 + 5 * k + 4) = 0)))) C0) nx) := by
  refine z_met' (L := [zP x, zI p, zI k, zU]) gX12_mind.1 rfl rfl (Nat.le_of_ble_eq_true rfl) rfl ?_
  obtain ⟨p1, p2⟩ := hp
  obtain ⟨q1, q2⟩ := hk
  have hm := hM.1.m4
  have hm3 := hM.1.m3
  have e1 : ∀ v, zset σ 0 0 v 1 = σ 1 := fun v => zset_o (by decide)
  have hst : 0 ≤ k ∧ k < σ 1 4 → zin (σ 1 (74 + 5 * k + 4)) := fun z => by
    have := hM.1.st (k := k) ⟨z.1, by omega⟩
    exact ⟨by omega, by omega⟩
  refine z_al0 eX12_mind_0 hR.ne ?_
  refine z_al0 eX12_mind_1 hR.ne ?_
  refine z_il1 eX12_mind_2 ?_
  refine z_V1 eX12_mind_3 vX12_317 rfl rfl (Nat.le_of_ble_eq_true rfl) (Nat.le_of_ble_eq_true rfl) hR.x (m_X12_isMember hR ⟨by omega, by omega⟩ hm3) ?_
  refine z_ifb_eq (tgt := 17) eX12_mind_6 rfl (fun h6 => ?_) (fun h6 => ?_)
  · refine z_iconst eX12_mind_17 ?_
    refine z_goto eX12_mind_18 (tgt := 22) rfl ?_
    refine z_rp (j := 0) lX12_48 eX12_mind_22 rfl hR rfl rfl ?_
    refine z_al0 eX12_mind_25 hR.ne ?_
    refine z_rg (j := 0) lX12_48 eX12_mind_26 rfl hR rfl rfl ?_
    rw [zset_eq]
    refine z_if_le (tgt := 34) eX12_mind_29 rfl ⟨by omega, by omega⟩ (fun h29 => (by exfalso; omega)) (fun h29 => ?_)
    refine z_iconst eX12_mind_32 ?_
    refine z_zreturn eX12_mind_33 rfl (by first | exact Or.inl rfl | exact Or.inr rfl | exact zbi_01 _ | assumption | omega) ?_
    first | (rw [qThr2_1 (fun z => h14 z.2), if_neg (by decide)]; exact zRb0 (fun z => absurd z.1 (by decide))) | (rw [qThr2_1 (fun z => h6 z.1), if_neg (by decide)]; exact zRb0 (fun z => absurd z.1 (by decide)))
  · refine z_al0 eX12_mind_9 hR.ne ?_
    refine z_il2 eX12_mind_10 ?_
    refine z_V1 eX12_mind_11 vX12_326 rfl rfl (Nat.le_of_ble_eq_true rfl) (Nat.le_of_ble_eq_true rfl) hR.x (m_X12_isMotion hR ⟨by omega, by omega⟩ hm) ?_
    refine z_ifb_ne (tgt := 21) eX12_mind_14 rfl (fun h14 => ?_) (fun h14 => ?_)
    · refine z_iconst eX12_mind_21 ?_
      refine z_rp (j := 0) lX12_48 eX12_mind_22 rfl hR rfl rfl ?_
      refine z_al0 eX12_mind_25 hR.ne ?_
      refine z_rg (j := 0) lX12_48 eX12_mind_26 rfl hR rfl rfl ?_
      rw [zset_eq]
      refine z_if_le (tgt := 34) eX12_mind_29 rfl ⟨by omega, by omega⟩ (fun h29 => ?_) (fun h29 => (by exfalso; omega))
      refine z_al0 eX12_mind_34 hR.ne ?_
      refine z_al0 eX12_mind_35 hR.ne ?_
      refine z_il2 eX12_mind_36 ?_
      refine z_V1 eX12_mind_37 vX12_308 rfl rfl (Nat.le_of_ble_eq_true rfl) (Nat.le_of_ble_eq_true rfl) hR.x (m_X12_waits hR ⟨by omega, by omega⟩ (by rw [e1]; exact hst h14)) ?_
      rw [e1]
      refine z_ifb_ne (tgt := 47) eX12_mind_40 rfl (fun h40 => ?_) (fun h40 => ?_)
      · refine z_iconst eX12_mind_47 ?_
        refine z_rp (j := 0) lX12_48 eX12_mind_48 rfl hR rfl rfl ?_
        rw [zset_zset]
        refine z_al0 eX12_mind_51 hR.ne ?_
        refine z_rg (j := 0) lX12_48 eX12_mind_52 rfl hR rfl rfl ?_
        rw [zset_eq]
        refine z_if_le (tgt := 60) eX12_mind_55 rfl ⟨by omega, by omega⟩ (fun h55 => ?_) (fun h55 => (by exfalso; omega))
        refine z_al0 eX12_mind_60 hR.ne ?_
        refine z_bipush eX12_mind_61 (by decide) ?_
        refine z_iconst eX12_mind_63 ?_
        refine z_il2 eX12_mind_64 ?_
        refine z_imul eX12_mind_65 ?_
        refine z_iadd eX12_mind_66 ?_
        refine z_iconst eX12_mind_67 ?_
        refine z_iadd eX12_mind_68 ?_
        refine z_al0 eX12_mind_69 hR.ne ?_
        refine z_il2 eX12_mind_70 ?_
        refine z_iconst eX12_mind_71 ?_
        refine z_V2 eX12_mind_72 vX12_55 rfl rfl (Nat.le_of_ble_eq_true rfl) (Nat.le_of_ble_eq_true rfl) hR.x (m_X12_ofMotion hR ⟨by omega, by omega⟩ ⟨by omega, by omega⟩) ?_
        rw [e1]
        refine z_iconst eX12_mind_75 ?_
        refine z_il1 eX12_mind_76 ?_
        refine z_ishl eX12_mind_77 ?_
        refine z_ixor eX12_mind_78 ?_
        refine z_V2 eX12_mind_79 vX12_341 rfl rfl (Nat.le_of_ble_eq_true rfl) (Nat.le_of_ble_eq_true rfl) hR.x (m_X12_sets' hR ha ⟨by omega, by omega⟩) ?_
        refine z_is3 eX12_mind_82 (Nat.ne_of_beq_eq_false rfl) ?_
        refine z_il3 eX12_mind_83 ?_
        refine z_il1 eX12_mind_84 ?_
        refine z_S2 eX12_mind_85 vX12_290 rfl rfl (Nat.le_of_ble_eq_true rfl) (Nat.le_of_ble_eq_true rfl) (m_X12_isOf ) ?_
        refine z_ifb_ne (tgt := 95) eX12_mind_88 rfl (fun h88 => ?_) (fun h88 => ?_)
        · refine z_iconst eX12_mind_95 ?_
          refine z_zreturn eX12_mind_96 rfl (by first | exact Or.inl rfl | exact Or.inr rfl | exact zbi_01 _ | assumption | omega) ?_
          rw [if_pos (qThr2_0 ⟨h6, h14⟩ h40)]; first | exact zRb1 ⟨qThr2_0 ⟨h6, h14⟩ h40, h88⟩ | exact zRb0 (fun z => z.2 h88)
        · refine z_iconst eX12_mind_91 ?_
          refine z_goto eX12_mind_92 (tgt := 96) rfl ?_
          refine z_zreturn eX12_mind_96 rfl (by first | exact Or.inl rfl | exact Or.inr rfl | exact zbi_01 _ | assumption | omega) ?_
          rw [if_pos (qThr2_0 ⟨h6, h14⟩ h40)]; first | exact zRb1 ⟨qThr2_0 ⟨h6, h14⟩ h40, h88⟩ | exact zRb0 (fun z => z.2 h88)
      · refine z_iconst eX12_mind_43 ?_
        refine z_goto eX12_mind_44 (tgt := 48) rfl ?_
        refine z_rp (j := 0) lX12_48 eX12_mind_48 rfl hR rfl rfl ?_
        rw [zset_zset]
        refine z_al0 eX12_mind_51 hR.ne ?_
        refine z_rg (j := 0) lX12_48 eX12_mind_52 rfl hR rfl rfl ?_
        rw [zset_eq]
        refine z_if_le (tgt := 60) eX12_mind_55 rfl ⟨by omega, by omega⟩ (fun h55 => (by exfalso; omega)) (fun h55 => ?_)
        refine z_iconst eX12_mind_58 ?_
        refine z_zreturn eX12_mind_59 rfl (by first | exact Or.inl rfl | exact Or.inr rfl | exact zbi_01 _ | assumption | omega) ?_
        rw [qThr2_2 ⟨h6, h14⟩ h40, if_neg (by decide)]; exact zRb0 (fun z => absurd z.1 (by decide))
    · refine z_iconst eX12_mind_17 ?_
      refine z_goto eX12_mind_18 (tgt := 22) rfl ?_
      refine z_rp (j := 0) lX12_48 eX12_mind_22 rfl hR rfl rfl ?_
      refine z_al0 eX12_mind_25 hR.ne ?_
      refine z_rg (j := 0) lX12_48 eX12_mind_26 rfl hR rfl rfl ?_
      rw [zset_eq]
      refine z_if_le (tgt := 34) eX12_mind_29 rfl ⟨by omega, by omega⟩ (fun h29 => (by exfalso; omega)) (fun h29 => ?_)
      refine z_iconst eX12_mind_32 ?_
      refine z_zreturn eX12_mind_33 rfl (by first | exact Or.inl rfl | exact Or.inr rfl | exact zbi_01 _ | assumption | omega) ?_
      first | (rw [qThr2_1 (fun z => h14 z.2), if_neg (by decide)]; exact zRb0 (fun z => absurd z.1 (by decide))) | (rw [qThr2_1 (fun z => h6 z.1), if_neg (by decide)]; exact zRb0 (fun z => absurd z.1 (by decide)))
