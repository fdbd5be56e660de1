/-! Minds, bargains, likes. -/
theorem zput_back {M : Int → Int} {j v : Int} : zput (zput M j v) j (M j) = M := by
  funext i
  unfold zput
  by_cases e : i = j
  · rw [if_pos e, e]
  · rw [if_neg e, if_neg e]
def qWetBy (M : Int → Int) (k those : Int) : Prop := qGo (zput M (74 + 5 * k + 3) those) k 2 (M 6) = 1
theorem zOL.fors {M : Int → Int} (h : zOL M) {k v : Int} (hk : 0 ≤ k ∧ k < 8) : zOL (zput M (74 + 5 * k + 3) v) :=
  h.put (by omega) (by omega) (fun _ _ => Or.inl (Or.inr ⟨by omega, by omega, by omega⟩))
theorem m_X12_goesWetBy {G : zG} {lay : zLay} {σ C0 : zMem} {nx x : Int} {k v : Int} (hR : RefL lay x) (hS : TxS lay C0) (hJ : zJs σ) (hM : zOL (σ 1)) (hk : 0 ≤ k ∧ k < 8) : zMM G 69 KX12_goesWetBy [zP x, zI k, zI v] lay (rC x σ C0) nx (0, 0) (zX' (some (zI (zbi (qWetBy (σ 1) k v)))) (zScr σ) lay C0 nx x) := by
  refine z_met' (L := [zP x, zI k, zI v, zU, zU]) gX12_goesWetBy.1 rfl rfl (Nat.le_of_ble_eq_true rfl) rfl ?_
  have hM2 := hM.fors (v := v) hk
  have hgw := m_X12_goesWet (G := G) (nx := nx) (σ := zM σ (zput (σ 1) (74 + 5 * k + 3) v)) (k := k) hR hS hJ hM2 hk
  rw [zM_1, zput_ne (j := 6) (by omega)] at hgw
  refine z_al0 eX12_goesWetBy_0 hR.ne ?_
  refine z_il1 eX12_goesWetBy_1 ?_
  refine z_iconst eX12_goesWetBy_2 ?_
  refine z_V2 eX12_goesWetBy_3 vX12_55 rfl rfl (Nat.le_of_ble_eq_true rfl) (Nat.le_of_ble_eq_true rfl) hR.x (m_X12_ofMotion hR ⟨by omega, by omega⟩ (by decide)) ?_
  try rw [zM_1]
  refine z_is3 eX12_goesWetBy_6 (Nat.ne_of_beq_eq_false rfl) ?_
  refine z_al0 eX12_goesWetBy_7 hR.ne ?_
  refine z_ra lX12_7 eX12_goesWetBy_8 rfl hR rfl ?_
  try rw [zM_n]
  refine z_bipush eX12_goesWetBy_11 (by decide) ?_
  refine z_iconst eX12_goesWetBy_13 ?_
  refine z_il1 eX12_goesWetBy_14 ?_
  refine z_imul eX12_goesWetBy_15 ?_
  refine z_iadd eX12_goesWetBy_16 ?_
  refine z_iconst eX12_goesWetBy_17 ?_
  refine z_iadd eX12_goesWetBy_18 ?_
  refine z_il2 eX12_goesWetBy_19 ?_
  refine z_rs eX12_goesWetBy_20 hR (by decide) rfl rfl ⟨by omega, by omega⟩ ?_
  first | rw [zM_s] | rw [zM_s0] | skip
  refine z_al0 eX12_goesWetBy_21 hR.ne ?_
  refine z_il1 eX12_goesWetBy_22 ?_
  refine z_V1x eX12_goesWetBy_23 vX12_367 rfl rfl (Nat.le_of_ble_eq_true rfl) (Nat.le_of_ble_eq_true rfl) hR.x (hgw ) (fun s23 hs23 => ?_)
  try rw [zM_1]
  refine z_is4 eX12_goesWetBy_26 (Nat.ne_of_beq_eq_false rfl) ?_
  refine z_al0 eX12_goesWetBy_28 hR.ne ?_
  refine z_ra lX12_7 eX12_goesWetBy_29 rfl hR rfl ?_
  try rw [zM_n]
  refine z_bipush eX12_goesWetBy_32 (by decide) ?_
  refine z_iconst eX12_goesWetBy_34 ?_
  refine z_il1 eX12_goesWetBy_35 ?_
  refine z_imul eX12_goesWetBy_36 ?_
  refine z_iadd eX12_goesWetBy_37 ?_
  refine z_iconst eX12_goesWetBy_38 ?_
  refine z_iadd eX12_goesWetBy_39 ?_
  refine z_il3 eX12_goesWetBy_40 ?_
  refine z_rs eX12_goesWetBy_41 hR (by decide) rfl rfl ⟨by omega, by omega⟩ ?_
  first | rw [zM_s] | rw [zM_s0] | skip
  try rw [hs23.r1]
  try rw [zM_1]
  refine z_il4 eX12_goesWetBy_42 ?_
  refine z_zreturn eX12_goesWetBy_44 rfl (by first | exact Or.inl rfl | exact Or.inr rfl | exact zbi_01 _ | assumption | omega) ?_
  refine zXe (s := zM s23 _) ?_ rfl
  have e := hs23.m (σ 1)
  rw [zM_M, zM_self] at e
  rw [zput_back]
  exact e
noncomputable def qMinds (M : Int → Int) (k n : Int) : Int := zfold (fun set found => zif (zand set (zxor (qOuts M) (-1)) = 0 ∧ (found = -1 ∨ qbits set < qbits found) ∧ qWetBy M k (zxor (M (74 + 5 * k + 3)) set)) set found) (-1) n
theorem qMinds_bd (M : Int → Int) (k : Int) {n : Int} (hn : 0 ≤ n) : -1 ≤ qMinds M k n ∧ (qMinds M k n < n ∨ qMinds M k n = -1) := by
  unfold qMinds
  exact zfold_P (f := fun set found => zif (zand set (zxor (qOuts M) (-1)) = 0 ∧ (found = -1 ∨ qbits set < qbits found) ∧ qWetBy M k (zxor (M (74 + 5 * k + 3)) set)) set found) (P := fun n (r : Int) => -1 ≤ r ∧ (r < n ∨ r = -1)) (s := -1) ⟨by decide, Or.inr rfl⟩ (fun t r ht h => by
    by_cases hc : zand t (zxor (qOuts M) (-1)) = 0 ∧ (r = -1 ∨ qbits t < qbits r) ∧ qWetBy M k (zxor (M (74 + 5 * k + 3)) t)
    · rw [zif_t hc]; omega
    · rw [zif_f hc]; omega) n hn
theorem m_X12_minds {G : zG} {lay : zLay} {σ C0 : zMem} {nx x : Int} {k : Int} (hR : RefL lay x) (hS : TxS lay C0) (hJ : zJs σ) (hM : zOL (σ 1)) (hk : zin k) : zMM G 70 KX12_minds [zP x, zI k] lay (rC x σ C0) nx (0, 0) (zX' (some (zI (if 0 ≤ k ∧ k < σ 1 4 then qMinds (σ 1) k 128 else 0))) (zScr (zset σ 0 0 (qThr1 (0 ≤ k ∧ k < σ 1 4)))) lay C0 nx x) := by
  refine z_met' (L := [zP x, zI k, zU, zU]) gX12_minds.1 rfl rfl (Nat.le_of_ble_eq_true rfl) rfl ?_
  obtain ⟨k1, k2⟩ := hk
  have hm3 := hM.1.1.m3
  have hm4 := hM.1.1.m4
  have hJ1 : ∀ v, zJs (zset σ 0 0 v) := fun v => hJ.set (by decide) (fun _ => Or.inl rfl)
  have w30 : (0 ≤ k ∧ k < σ 1 4) → ∀ set : Int, 0 ≤ set → set ≤ 128 → ∀ S : zMem, zScr (zset σ 0 0 0) S → zW G KX12_minds 70 (zX' (some (zI (qMinds (σ 1) k 128))) (zScr (zset σ 0 0 0)) lay C0 nx x) 30 [zP x, zI k, zI (qMinds (σ 1) k set), zI set] [] lay (rC x S C0) nx (0, 0) := by
    intro hkk
    refine z_up 128 ?_ ?_
    · intro S hSc
      refine z_il3 eX12_minds_30 ?_
      refine z_sipush eX12_minds_31 (by decide) ?_
      refine z_icmp_ge (tgt := 88) eX12_minds_34 rfl ⟨⟨by omega, by omega⟩, ⟨by omega, by omega⟩⟩ (fun h34 => ?_) (fun h34 => (by exfalso; omega))
      refine z_il2 eX12_minds_88 ?_
      refine z_ireturn eX12_minds_89 rfl ?_
      exact zXe hSc rfl
    · intro set s0 s1 ih S hSc
      have hS1 : S 1 = σ 1 := by rw [hSc.r1, zset_001]
      have hb := qMinds_bd (σ 1) k s0
      have e : qMinds (σ 1) k (set + 1) = zif (zand set (zxor (qOuts (σ 1)) (-1)) = 0 ∧ (qMinds (σ 1) k set = -1 ∨ qbits set < qbits (qMinds (σ 1) k set)) ∧ qWetBy (σ 1) k (zxor (σ 1 (74 + 5 * k + 3)) set)) set (qMinds (σ 1) k set) := by unfold qMinds; rw [zfold_s _ _ s0]
      rw [e] at ih
      generalize qMinds (σ 1) k set = f at ih hb ⊢
      have b1 := qbits_bd set
      have b2 := qbits_bd f
      have hza := zand_in set (zxor (qOuts (σ 1)) (-1))
      refine z_il3 eX12_minds_30 ?_
      refine z_sipush eX12_minds_31 (by decide) ?_
      refine z_icmp_ge (tgt := 88) eX12_minds_34 rfl ⟨⟨by omega, by omega⟩, ⟨by omega, by omega⟩⟩ (fun h34 => (by exfalso; omega)) (fun h34 => ?_)
      refine z_il3 eX12_minds_37 ?_
      refine z_al0 eX12_minds_38 hR.ne ?_
      refine z_V0 eX12_minds_39 vX12_280 rfl rfl (Nat.le_of_ble_eq_true rfl) (Nat.le_of_ble_eq_true rfl) hR.x (m_X12_outs hR (by rw [hS1]; exact hm3)) ?_
      try rw [hS1]
      change zW _ _ _ _ _ _ (zI (qOuts (σ 1)) :: _) _ _ _ _
      refine z_iconst eX12_minds_42 ?_
      refine z_ixor eX12_minds_43 ?_
      refine z_iand eX12_minds_44 ?_
      refine z_if_ne (tgt := 82) eX12_minds_45 rfl hza (fun h45 => ?_) (fun h45 => ?_)
      · refine z_ii3 eX12_minds_82 (Nat.ne_of_beq_eq_false rfl) ?_
        refine z_goto eX12_minds_85 (tgt := 30) rfl ?_
        first | (have e2 := h77; first | (rw [zif_t ⟨h45, by omega, e2⟩] at ih; exact ih s74 (hSc.trans hs74)) | (rw [zif_f (fun z => e2 z.2.2)] at ih; exact ih s74 (hSc.trans hs74))) | (have e2 := h61; rw [zif_f (by intro z; omega)] at ih; exact ih S hSc) | (rw [zif_f (fun z => h45 z.1)] at ih; exact ih S hSc) | fail
      · refine z_il2 eX12_minds_48 ?_
        refine z_iconst eX12_minds_49 ?_
        refine z_icmp_eq (tgt := 64) eX12_minds_50 rfl ⟨⟨by omega, by omega⟩, ⟨by omega, by omega⟩⟩ (fun h50 => ?_) (fun h50 => ?_)
        · refine z_al0 eX12_minds_64 hR.ne ?_
          refine z_il1 eX12_minds_65 ?_
          refine z_al0 eX12_minds_66 hR.ne ?_
          refine z_il1 eX12_minds_67 ?_
          refine z_iconst eX12_minds_68 ?_
          refine z_V2 eX12_minds_69 vX12_55 rfl rfl (Nat.le_of_ble_eq_true rfl) (Nat.le_of_ble_eq_true rfl) hR.x (m_X12_ofMotion hR ⟨by omega, by omega⟩ (by decide)) ?_
          try rw [hS1]
          refine z_il3 eX12_minds_72 ?_
          refine z_ixor eX12_minds_73 ?_
          refine z_V2x eX12_minds_74 vX12_428 rfl rfl (Nat.le_of_ble_eq_true rfl) (Nat.le_of_ble_eq_true rfl) hR.x (m_X12_goesWetBy hR hS hSc.2.2 (by rw [hS1]; exact hM) ⟨by omega, by omega⟩) (fun s74 hs74 => ?_)
          try rw [hS1]
          refine z_ifb_eq (tgt := 82) eX12_minds_77 rfl (fun h77 => ?_) (fun h77 => ?_)
          · refine z_ii3 eX12_minds_82 (Nat.ne_of_beq_eq_false rfl) ?_
            refine z_goto eX12_minds_85 (tgt := 30) rfl ?_
            first | (have e2 := h77; first | (rw [zif_t ⟨h45, by omega, e2⟩] at ih; exact ih s74 (hSc.trans hs74)) | (rw [zif_f (fun z => e2 z.2.2)] at ih; exact ih s74 (hSc.trans hs74))) | (have e2 := h61; rw [zif_f (by intro z; omega)] at ih; exact ih S hSc) | (rw [zif_f (fun z => h45 z.1)] at ih; exact ih S hSc) | fail
          · refine z_il3 eX12_minds_80 ?_
            refine z_is2 eX12_minds_81 (Nat.ne_of_beq_eq_false rfl) ?_
            refine z_ii3 eX12_minds_82 (Nat.ne_of_beq_eq_false rfl) ?_
            refine z_goto eX12_minds_85 (tgt := 30) rfl ?_
            first | (have e2 := h77; first | (rw [zif_t ⟨h45, by omega, e2⟩] at ih; exact ih s74 (hSc.trans hs74)) | (rw [zif_f (fun z => e2 z.2.2)] at ih; exact ih s74 (hSc.trans hs74))) | (have e2 := h61; rw [zif_f (by intro z; omega)] at ih; exact ih S hSc) | (rw [zif_f (fun z => h45 z.1)] at ih; exact ih S hSc) | fail
        · refine z_il3 eX12_minds_53 ?_
          refine z_S1 eX12_minds_54 vX12_283 rfl rfl (Nat.le_of_ble_eq_true rfl) (Nat.le_of_ble_eq_true rfl) (m_X12_bits ) ?_
          try rw [hS1]
          refine z_il2 eX12_minds_57 ?_
          refine z_S1 eX12_minds_58 vX12_283 rfl rfl (Nat.le_of_ble_eq_true rfl) (Nat.le_of_ble_eq_true rfl) (m_X12_bits ) ?_
          try rw [hS1]
          refine z_icmp_ge (tgt := 82) eX12_minds_61 rfl ⟨⟨by omega, by omega⟩, ⟨by omega, by omega⟩⟩ (fun h61 => ?_) (fun h61 => ?_)
          · refine z_ii3 eX12_minds_82 (Nat.ne_of_beq_eq_false rfl) ?_
            refine z_goto eX12_minds_85 (tgt := 30) rfl ?_
            first | (have e2 := h77; first | (rw [zif_t ⟨h45, by omega, e2⟩] at ih; exact ih s74 (hSc.trans hs74)) | (rw [zif_f (fun z => e2 z.2.2)] at ih; exact ih s74 (hSc.trans hs74))) | (have e2 := h61; rw [zif_f (by intro z; omega)] at ih; exact ih S hSc) | (rw [zif_f (fun z => h45 z.1)] at ih; exact ih S hSc) | fail
          · refine z_al0 eX12_minds_64 hR.ne ?_
            refine z_il1 eX12_minds_65 ?_
            refine z_al0 eX12_minds_66 hR.ne ?_
            refine z_il1 eX12_minds_67 ?_
            refine z_iconst eX12_minds_68 ?_
            refine z_V2 eX12_minds_69 vX12_55 rfl rfl (Nat.le_of_ble_eq_true rfl) (Nat.le_of_ble_eq_true rfl) hR.x (m_X12_ofMotion hR ⟨by omega, by omega⟩ (by decide)) ?_
            try rw [hS1]
            refine z_il3 eX12_minds_72 ?_
            refine z_ixor eX12_minds_73 ?_
            refine z_V2x eX12_minds_74 vX12_428 rfl rfl (Nat.le_of_ble_eq_true rfl) (Nat.le_of_ble_eq_true rfl) hR.x (m_X12_goesWetBy hR hS hSc.2.2 (by rw [hS1]; exact hM) ⟨by omega, by omega⟩) (fun s74 hs74 => ?_)
            try rw [hS1]
            refine z_ifb_eq (tgt := 82) eX12_minds_77 rfl (fun h77 => ?_) (fun h77 => ?_)
            · refine z_ii3 eX12_minds_82 (Nat.ne_of_beq_eq_false rfl) ?_
              refine z_goto eX12_minds_85 (tgt := 30) rfl ?_
              first | (have e2 := h77; first | (rw [zif_t ⟨h45, by omega, e2⟩] at ih; exact ih s74 (hSc.trans hs74)) | (rw [zif_f (fun z => e2 z.2.2)] at ih; exact ih s74 (hSc.trans hs74))) | (have e2 := h61; rw [zif_f (by intro z; omega)] at ih; exact ih S hSc) | (rw [zif_f (fun z => h45 z.1)] at ih; exact ih S hSc) | fail
            · refine z_il3 eX12_minds_80 ?_
              refine z_is2 eX12_minds_81 (Nat.ne_of_beq_eq_false rfl) ?_
              refine z_ii3 eX12_minds_82 (Nat.ne_of_beq_eq_false rfl) ?_
              refine z_goto eX12_minds_85 (tgt := 30) rfl ?_
              first | (have e2 := h77; first | (rw [zif_t ⟨h45, by omega, e2⟩] at ih; exact ih s74 (hSc.trans hs74)) | (rw [zif_f (fun z => e2 z.2.2)] at ih; exact ih s74 (hSc.trans hs74))) | (have e2 := h61; rw [zif_f (by intro z; omega)] at ih; exact ih S hSc) | (rw [zif_f (fun z => h45 z.1)] at ih; exact ih S hSc) | fail
  refine z_al0 eX12_minds_0 hR.ne ?_
  refine z_al0 eX12_minds_1 hR.ne ?_
  refine z_il1 eX12_minds_2 ?_
  refine z_V1 eX12_minds_3 vX12_326 rfl rfl (Nat.le_of_ble_eq_true rfl) (Nat.le_of_ble_eq_true rfl) hR.x (m_X12_isMotion hR ⟨by omega, by omega⟩ hm4) ?_
  refine z_ifb_ne (tgt := 13) eX12_minds_6 rfl (fun h6 => ?_) (fun h6 => ?_)
  · refine z_iconst eX12_minds_13 ?_
    refine z_rp (j := 0) lX12_48 eX12_minds_14 rfl hR rfl rfl ?_
    refine z_al0 eX12_minds_17 hR.ne ?_
    refine z_rg (j := 0) lX12_48 eX12_minds_18 rfl hR rfl rfl ?_
    rw [zset_eq]
    refine z_if_le (tgt := 26) eX12_minds_21 rfl ⟨by omega, by omega⟩ (fun h21 => ?_) (fun h21 => (by exfalso; omega))
    refine z_iconst eX12_minds_26 ?_
    refine z_is2 eX12_minds_27 (Nat.ne_of_beq_eq_false rfl) ?_
    refine z_iconst eX12_minds_28 ?_
    refine z_is3 eX12_minds_29 (Nat.ne_of_beq_eq_false rfl) ?_
    rw [if_pos (by omega), qThr1_t (by omega)]; exact w30 (by omega) 0 (by decide) (by decide) _ (zScr.refl (hJ1 0))
  · refine z_iconst eX12_minds_9 ?_
    refine z_goto eX12_minds_10 (tgt := 14) rfl ?_
    refine z_rp (j := 0) lX12_48 eX12_minds_14 rfl hR rfl rfl ?_
    refine z_al0 eX12_minds_17 hR.ne ?_
    refine z_rg (j := 0) lX12_48 eX12_minds_18 rfl hR rfl rfl ?_
    rw [zset_eq]
    refine z_if_le (tgt := 26) eX12_minds_21 rfl ⟨by omega, by omega⟩ (fun h21 => (by exfalso; omega)) (fun h21 => ?_)
    refine z_iconst eX12_minds_24 ?_
    refine z_ireturn eX12_minds_25 rfl ?_
    rw [if_neg (by omega), qThr1_f (by omega)]; exact zXe (zScr.refl (hJ1 1)) rfl
def qParts (M : Int → Int) (k p o : Int) : Prop := M (74 + 5 * k + 4) = 0 ∧ zbit (M (74 + 5 * k + 3)) p = 1 ∧ ¬ zbit (M (74 + 5 * k + 3)) o = 1
theorem m_X12_parts {G : zG} {lay : zLay} {σ C0 : zMem} {nx x : Int} {k p o : Int} (hR : RefL lay x) (hk : 0 ≤ k ∧ k < 8) (hM : zInv (σ 1)) : zMM G 3 KX12_parts [zP x, zI k, zI p, zI o] lay (rC x σ C0) nx (0, 0) (zR (some (zI (zbi (qParts (σ 1) k p o)))) lay (rC x (σ) C0) nx) := by
  refine z_met' (L := [zP x, zI k, zI p, zI o]) gX12_parts.1 rfl rfl (Nat.le_of_ble_eq_true rfl) rfl ?_
  have hV := hM.V hk
  unfold qParts
  refine z_al0 eX12_parts_0 hR.ne ?_
  refine z_il1 eX12_parts_1 ?_
  refine z_V1 eX12_parts_2 vX12_308 rfl rfl (Nat.le_of_ble_eq_true rfl) (Nat.le_of_ble_eq_true rfl) hR.x (m_X12_waits hR hk ⟨by omega, by omega⟩) ?_
  refine z_ifb_eq (tgt := 38) eX12_parts_5 rfl (fun h5 => ?_) (fun h5 => ?_)
  · refine z_iconst eX12_parts_38 ?_
    refine z_zreturn eX12_parts_39 rfl (by first | exact Or.inl rfl | exact Or.inr rfl | exact zbi_01 _ | assumption | omega) ?_
    first | (have e2 := h31; first | exact zRb1 ⟨h5, h18, e2⟩ | exact zRb0 (fun z => z.2.2 e2)) | (have e2 := h18; exact zRb0 (fun z => e2 z.2.1)) | exact zRb0 (fun z => h5 z.1) | fail
  · refine z_al0 eX12_parts_8 hR.ne ?_
    refine z_il1 eX12_parts_9 ?_
    refine z_iconst eX12_parts_10 ?_
    refine z_V2 eX12_parts_11 vX12_55 rfl rfl (Nat.le_of_ble_eq_true rfl) (Nat.le_of_ble_eq_true rfl) hR.x (m_X12_ofMotion hR ⟨by omega, by omega⟩ (by decide)) ?_
    refine z_il2 eX12_parts_14 ?_
    refine z_S2 eX12_parts_15 vX12_290 rfl rfl (Nat.le_of_ble_eq_true rfl) (Nat.le_of_ble_eq_true rfl) (m_X12_isOf ) ?_
    refine z_ifb_eq (tgt := 38) eX12_parts_18 rfl (fun h18 => ?_) (fun h18 => ?_)
    · refine z_iconst eX12_parts_38 ?_
      refine z_zreturn eX12_parts_39 rfl (by first | exact Or.inl rfl | exact Or.inr rfl | exact zbi_01 _ | assumption | omega) ?_
      first | (have e2 := h31; first | exact zRb1 ⟨h5, h18, e2⟩ | exact zRb0 (fun z => z.2.2 e2)) | (have e2 := h18; exact zRb0 (fun z => e2 z.2.1)) | exact zRb0 (fun z => h5 z.1) | fail
    · refine z_al0 eX12_parts_21 hR.ne ?_
      refine z_il1 eX12_parts_22 ?_
      refine z_iconst eX12_parts_23 ?_
      refine z_V2 eX12_parts_24 vX12_55 rfl rfl (Nat.le_of_ble_eq_true rfl) (Nat.le_of_ble_eq_true rfl) hR.x (m_X12_ofMotion hR ⟨by omega, by omega⟩ (by decide)) ?_
      refine z_il3 eX12_parts_27 ?_
      refine z_S2 eX12_parts_28 vX12_290 rfl rfl (Nat.le_of_ble_eq_true rfl) (Nat.le_of_ble_eq_true rfl) (m_X12_isOf ) ?_
      refine z_ifb_ne (tgt := 38) eX12_parts_31 rfl (fun h31 => ?_) (fun h31 => ?_)
      · refine z_iconst eX12_parts_38 ?_
        refine z_zreturn eX12_parts_39 rfl (by first | exact Or.inl rfl | exact Or.inr rfl | exact zbi_01 _ | assumption | omega) ?_
        first | (have e2 := h31; first | exact zRb1 ⟨h5, h18, e2⟩ | exact zRb0 (fun z => z.2.2 e2)) | (have e2 := h18; exact zRb0 (fun z => e2 z.2.1)) | exact zRb0 (fun z => h5 z.1) | fail
      · refine z_iconst eX12_parts_34 ?_
        refine z_goto eX12_parts_35 (tgt := 39) rfl ?_
        refine z_zreturn eX12_parts_39 rfl (by first | exact Or.inl rfl | exact Or.inr rfl | exact zbi_01 _ | assumption | omega) ?_
        first | (have e2 := h31; first | exact zRb1 ⟨h5, h18, e2⟩ | exact zRb0 (fun z => z.2.2 e2)) | (have e2 := h18; exact zRb0 (fun z => e2 z.2.1)) | exact zRb0 (fun z => h5 z.1) | fail
def qBar (M : Int → Int) (p o a b : Int) : Prop := (qParts M a p o ∧ qParts M b o p) ∧ ¬ (qGo M a 2 (M 6) = 1 ∧ qGo M b 2 (M 6) = 1) ∧ qWetBy M a (zor (M (74 + 5 * a + 3)) (zor (zshl 1 p) (zshl 1 o))) ∧ qWetBy M b (zor (M (74 + 5 * b + 3)) (zor (zshl 1 p) (zshl 1 o)))
noncomputable def qBarN (M : Int → Int) (p o : Int) : Nat → Int → Int
  | 0, _ => -1
  | m + 1, a => if qFrom (qBar M p o a) 0 (M 4) = -1 then qBarN M p o m (a + 1) else 8 * a + qFrom (qBar M p o a) 0 (M 4)
theorem m_X12_bargain {G : zG} {lay : zLay} {σ C0 : zMem} {nx x : Int} {p o : Int} (hR : RefL lay x) (hS : TxS lay C0) (hJ : zJs σ) (hM : zOL (σ 1)) (hp : zin p) (ho : zin o) : zMM G 70 KX12_bargain [zP x, zI p, zI o] lay (rC x σ C0) nx (0, 0) (zX' (some (zI (if qThr2 ((0 ≤ p ∧ p < σ 1 3) ∧ 0 ≤ o ∧ o < σ 1 3) (p ≠ o) = 0 then qBarN (σ 1) p o (σ 1 4).toNat 0 else 0))) (zScr (zset σ 0 0 (qThr2 ((0 ≤ p ∧ p < σ 1 3) ∧ 0 ≤ o ∧ o < σ 1 3) (p ≠ o)))) lay C0 nx x) := by
  refine z_met' (L := [zP x, zI p, zI o, zU, zU, zU]) gX12_bargain.1 rfl rfl (Nat.le_of_ble_eq_true rfl) rfl ?_
  obtain ⟨p1, p2⟩ := hp
  obtain ⟨o1, o2⟩ := ho
  have hm3 := hM.1.1.m3
  have hm4 := hM.1.1.m4
  have hJ1 : ∀ v, zJs (zset σ 0 0 v) := fun v => hJ.set (by decide) (fun _ => Or.inl rfl)
  have w54 : ∀ (m : Nat) (a : Int) (S : zMem) (y : zAV) (r : Int), a + m = σ 1 4 → 0 ≤ a → y.1 ≠ 1 → zScr (zset σ 0 0 0) S → qBarN (σ 1) p o m a = r → zW G KX12_bargain 70 (zX' (some (zI r)) (zScr (zset σ 0 0 0)) lay C0 nx x) 54 [zP x, zI p, zI o, zI (zor (zshl 1 p) (zshl 1 o)), zI a, y] [] lay (rC x S C0) nx (0, 0) := by
    intro m
    induction m with
    | zero =>
      intro a S y r ha a0 hy hSc hr
      have hS1 : S 1 = σ 1 := by rw [hSc.r1, zset_001]
      refine z_il4 eX12_bargain_54 ?_
      refine z_al0 eX12_bargain_56 hR.ne ?_
      refine z_ra lX12_7 eX12_bargain_57 rfl hR rfl ?_
      try rw [hS1]
      refine z_iconst eX12_bargain_60 ?_
      refine z_rl eX12_bargain_61 hR (by decide) rfl rfl ⟨by omega, by omega⟩ ?_
      try rw [hS1]
      refine z_icmp_ge (tgt := 179) eX12_bargain_62 rfl ⟨⟨by omega, by omega⟩, ⟨by omega, by omega⟩⟩ (fun h62 => ?_) (fun h62 => (by exfalso; omega))
      refine z_iconst eX12_bargain_179 ?_
      refine z_ireturn eX12_bargain_180 rfl ?_
      exact zXe hSc hr
    | succ m ih =>
      intro a S y r ha a0 hy hSc hr
      unfold qBarN at hr
      have w68 : ∀ (n : Nat) (b : Int) (S : zMem), b + n = σ 1 4 → 0 ≤ b → zScr (zset σ 0 0 0) S → qFrom (qBar (σ 1) p o a) b (σ 1 4) = qFrom (qBar (σ 1) p o a) 0 (σ 1 4) → zW G KX12_bargain 70 (zX' (some (zI r)) (zScr (zset σ 0 0 0)) lay C0 nx x) 68 [zP x, zI p, zI o, zI (zor (zshl 1 p) (zshl 1 o)), zI a, zI b] [] lay (rC x S C0) nx (0, 0) := by
        intro n
        induction n with
        | zero =>
          intro b S hb b0 hSc hq
          have hS1 : S 1 = σ 1 := by rw [hSc.r1, zset_001]
          rw [qFrom_ge (by omega)] at hq
          rw [← hq, if_pos rfl] at hr
          refine z_il5 eX12_bargain_68 ?_
          refine z_al0 eX12_bargain_70 hR.ne ?_
          refine z_ra lX12_7 eX12_bargain_71 rfl hR rfl ?_
          try rw [hS1]
          refine z_iconst eX12_bargain_74 ?_
          refine z_rl eX12_bargain_75 hR (by decide) rfl rfl ⟨by omega, by omega⟩ ?_
          try rw [hS1]
          refine z_icmp_ge (tgt := 173) eX12_bargain_76 rfl ⟨⟨by omega, by omega⟩, ⟨by omega, by omega⟩⟩ (fun h76 => ?_) (fun h76 => (by exfalso; omega))
          refine z_ii4 eX12_bargain_173 (Nat.ne_of_beq_eq_false rfl) ?_
          refine z_goto eX12_bargain_176 (tgt := 54) rfl ?_
          exact ih (a + 1) S _ r (by omega) (by omega) (Nat.ne_of_beq_eq_false rfl) hSc hr
        | succ n ihb =>
          intro b S hb b0 hSc hq
          have hS1 : S 1 = σ 1 := by rw [hSc.r1, zset_001]
          rw [qFrom_s (by omega)] at hq
          have hno : ∀ S', zScr S S' → ¬ qBar (σ 1) p o a b → zW G KX12_bargain 70 (zX' (some (zI r)) (zScr (zset σ 0 0 0)) lay C0 nx x) 68 [zP x, zI p, zI o, zI (zor (zshl 1 p) (zshl 1 o)), zI a, zI (b + 1)] [] lay (rC x S' C0) nx (0, 0) := by
            intro S' h' hn
            rw [zif_f hn] at hq
            exact ihb (b + 1) S' (by omega) (by omega) (hSc.trans h') hq
          have hJS := hSc.2.2
          have hMS : zOL (S 1) := by rw [hS1]; exact hM
          refine z_il5 eX12_bargain_68 ?_
          refine z_al0 eX12_bargain_70 hR.ne ?_
          refine z_ra lX12_7 eX12_bargain_71 rfl hR rfl ?_
          try rw [hS1]
          refine z_iconst eX12_bargain_74 ?_
          refine z_rl eX12_bargain_75 hR (by decide) rfl rfl ⟨by omega, by omega⟩ ?_
          try rw [hS1]
          refine z_icmp_ge (tgt := 173) eX12_bargain_76 rfl ⟨⟨by omega, by omega⟩, ⟨by omega, by omega⟩⟩ (fun h76 => (by exfalso; omega)) (fun h76 => ?_)
          refine z_al0 eX12_bargain_79 hR.ne ?_
          refine z_il4 eX12_bargain_80 ?_
          refine z_il1 eX12_bargain_82 ?_
          refine z_il2 eX12_bargain_83 ?_
          refine z_V3 eX12_bargain_84 vX12_431 rfl rfl (Nat.le_of_ble_eq_true rfl) (Nat.le_of_ble_eq_true rfl) hR.x (m_X12_parts hR ⟨by omega, by omega⟩ (by rw [hS1]; exact hM.1.1)) ?_
          try rw [hS1]
          refine z_ifb_eq (tgt := 167) eX12_bargain_87 rfl (fun h87 => ?_) (fun h87 => ?_)
          · refine z_ii5 eX12_bargain_167 (Nat.ne_of_beq_eq_false rfl) ?_
            refine z_goto eX12_bargain_170 (tgt := 68) rfl ?_
            first | (have e2 := h155; exact hno _ hs152 (fun z => e2 z.2.2.2)) | (have e2 := h137; exact hno _ hs134 (fun z => e2 z.2.2.1)) | (have e2 := h116; exact hno _ hs113 (fun z => z.2.1 ⟨h107, e2⟩)) | (have e2 := h98; exact hno _ (zScr.refl hJS) (fun z => e2 z.1.2)) | exact hno _ (zScr.refl hJS) (fun z => h87 z.1.1) | fail
          · refine z_al0 eX12_bargain_90 hR.ne ?_
            refine z_il5 eX12_bargain_91 ?_
            refine z_il2 eX12_bargain_93 ?_
            refine z_il1 eX12_bargain_94 ?_
            refine z_V3 eX12_bargain_95 vX12_431 rfl rfl (Nat.le_of_ble_eq_true rfl) (Nat.le_of_ble_eq_true rfl) hR.x (m_X12_parts hR ⟨by omega, by omega⟩ (by rw [hS1]; exact hM.1.1)) ?_
            try rw [hS1]
            refine z_ifb_eq (tgt := 167) eX12_bargain_98 rfl (fun h98 => ?_) (fun h98 => ?_)
            · refine z_ii5 eX12_bargain_167 (Nat.ne_of_beq_eq_false rfl) ?_
              refine z_goto eX12_bargain_170 (tgt := 68) rfl ?_
              first | (have e2 := h155; exact hno _ hs152 (fun z => e2 z.2.2.2)) | (have e2 := h137; exact hno _ hs134 (fun z => e2 z.2.2.1)) | (have e2 := h116; exact hno _ hs113 (fun z => z.2.1 ⟨h107, e2⟩)) | (have e2 := h98; exact hno _ (zScr.refl hJS) (fun z => e2 z.1.2)) | exact hno _ (zScr.refl hJS) (fun z => h87 z.1.1) | fail
            · refine z_al0 eX12_bargain_101 hR.ne ?_
              refine z_il4 eX12_bargain_102 ?_
              refine z_V1x eX12_bargain_104 vX12_367 rfl rfl (Nat.le_of_ble_eq_true rfl) (Nat.le_of_ble_eq_true rfl) hR.x (m_X12_goesWet hR hS hJS hMS ⟨by omega, by omega⟩) (fun s104 hs104 => ?_)
              try rw [hS1]
              refine z_ifb_eq (tgt := 122) eX12_bargain_107 rfl (fun h107 => ?_) (fun h107 => ?_)
              · refine z_al0 eX12_bargain_122 hR.ne ?_
                refine z_il4 eX12_bargain_123 ?_
                refine z_al0 eX12_bargain_125 hR.ne ?_
                refine z_il4 eX12_bargain_126 ?_
                refine z_iconst eX12_bargain_128 ?_
                refine z_V2 eX12_bargain_129 vX12_55 rfl rfl (Nat.le_of_ble_eq_true rfl) (Nat.le_of_ble_eq_true rfl) hR.x (m_X12_ofMotion hR ⟨by omega, by omega⟩ (by decide)) ?_
                try rw [hS1]
                try rw [hs104.r1]
                refine z_il3 eX12_bargain_132 ?_
                refine z_ior eX12_bargain_133 ?_
                refine z_V2x eX12_bargain_134 vX12_428 rfl rfl (Nat.le_of_ble_eq_true rfl) (Nat.le_of_ble_eq_true rfl) hR.x (m_X12_goesWetBy hR hS (by first | exact hs113.2.2 | exact hs104.2.2) (by first | (rw [hs113.r1]; exact hMS) | (rw [hs104.r1]; exact hMS)) ⟨by omega, by omega⟩) (fun s134 hs134 => ?_)
                replace hs134 := hs104.trans hs134
                try rw [hs104.r1]
                try rw [hS1]
                refine z_ifb_eq (tgt := 167) eX12_bargain_137 rfl (fun h137 => ?_) (fun h137 => ?_)
                · refine z_ii5 eX12_bargain_167 (Nat.ne_of_beq_eq_false rfl) ?_
                  refine z_goto eX12_bargain_170 (tgt := 68) rfl ?_
                  first | (have e2 := h155; exact hno _ hs152 (fun z => e2 z.2.2.2)) | (have e2 := h137; exact hno _ hs134 (fun z => e2 z.2.2.1)) | (have e2 := h116; exact hno _ hs113 (fun z => z.2.1 ⟨h107, e2⟩)) | (have e2 := h98; exact hno _ (zScr.refl hJS) (fun z => e2 z.1.2)) | exact hno _ (zScr.refl hJS) (fun z => h87 z.1.1) | fail
                · refine z_al0 eX12_bargain_140 hR.ne ?_
                  refine z_il5 eX12_bargain_141 ?_
                  refine z_al0 eX12_bargain_143 hR.ne ?_
                  refine z_il5 eX12_bargain_144 ?_
                  refine z_iconst eX12_bargain_146 ?_
                  refine z_V2 eX12_bargain_147 vX12_55 rfl rfl (Nat.le_of_ble_eq_true rfl) (Nat.le_of_ble_eq_true rfl) hR.x (m_X12_ofMotion hR ⟨by omega, by omega⟩ (by decide)) ?_
                  try rw [hS1]
                  try rw [hs134.r1]
                  refine z_il3 eX12_bargain_150 ?_
                  refine z_ior eX12_bargain_151 ?_
                  refine z_V2x eX12_bargain_152 vX12_428 rfl rfl (Nat.le_of_ble_eq_true rfl) (Nat.le_of_ble_eq_true rfl) hR.x (m_X12_goesWetBy hR hS hs134.2.2 (by rw [hs134.r1]; exact hMS) ⟨by omega, by omega⟩) (fun s152 hs152 => ?_)
                  replace hs152 := hs134.trans hs152
                  try rw [hs134.r1]
                  try rw [hS1]
                  refine z_ifb_eq (tgt := 167) eX12_bargain_155 rfl (fun h155 => ?_) (fun h155 => ?_)
                  · refine z_ii5 eX12_bargain_167 (Nat.ne_of_beq_eq_false rfl) ?_
                    refine z_goto eX12_bargain_170 (tgt := 68) rfl ?_
                    first | (have e2 := h155; exact hno _ hs152 (fun z => e2 z.2.2.2)) | (have e2 := h137; exact hno _ hs134 (fun z => e2 z.2.2.1)) | (have e2 := h116; exact hno _ hs113 (fun z => z.2.1 ⟨h107, e2⟩)) | (have e2 := h98; exact hno _ (zScr.refl hJS) (fun z => e2 z.1.2)) | exact hno _ (zScr.refl hJS) (fun z => h87 z.1.1) | fail
                  · refine z_bipush eX12_bargain_158 (by decide) ?_
                    refine z_il4 eX12_bargain_160 ?_
                    refine z_imul eX12_bargain_162 ?_
                    refine z_il5 eX12_bargain_163 ?_
                    refine z_iadd eX12_bargain_165 ?_
                    refine z_ireturn eX12_bargain_166 rfl ?_
                    (have hc : ¬ (qGo (σ 1) a 2 (σ 1 6) = 1 ∧ qGo (σ 1) b 2 (σ 1 6) = 1) := by first | (have e3 := h116; exact fun z => e3 z.2) | exact fun z => h107 z.1); rw [zif_t ⟨⟨h87, h98⟩, hc, h137, h155⟩] at hq; rw [← hq, if_neg (by omega)] at hr; exact zXe (hSc.trans hs152) hr
              · refine z_al0 eX12_bargain_110 hR.ne ?_
                refine z_il5 eX12_bargain_111 ?_
                refine z_V1x eX12_bargain_113 vX12_367 rfl rfl (Nat.le_of_ble_eq_true rfl) (Nat.le_of_ble_eq_true rfl) hR.x (m_X12_goesWet hR hS hs104.2.2 (by rw [hs104.r1]; exact hMS) ⟨by omega, by omega⟩) (fun s113 hs113 => ?_)
                replace hs113 := hs104.trans hs113
                try rw [hs104.r1]
                try rw [hS1]
                refine z_ifb_eq (tgt := 122) eX12_bargain_116 rfl (fun h116 => ?_) (fun h116 => ?_)
                · refine z_al0 eX12_bargain_122 hR.ne ?_
                  refine z_il4 eX12_bargain_123 ?_
                  refine z_al0 eX12_bargain_125 hR.ne ?_
                  refine z_il4 eX12_bargain_126 ?_
                  refine z_iconst eX12_bargain_128 ?_
                  refine z_V2 eX12_bargain_129 vX12_55 rfl rfl (Nat.le_of_ble_eq_true rfl) (Nat.le_of_ble_eq_true rfl) hR.x (m_X12_ofMotion hR ⟨by omega, by omega⟩ (by decide)) ?_
                  try rw [hS1]
                  try rw [hs113.r1]
                  refine z_il3 eX12_bargain_132 ?_
                  refine z_ior eX12_bargain_133 ?_
                  refine z_V2x eX12_bargain_134 vX12_428 rfl rfl (Nat.le_of_ble_eq_true rfl) (Nat.le_of_ble_eq_true rfl) hR.x (m_X12_goesWetBy hR hS (by first | exact hs113.2.2 | exact hs104.2.2) (by first | (rw [hs113.r1]; exact hMS) | (rw [hs104.r1]; exact hMS)) ⟨by omega, by omega⟩) (fun s134 hs134 => ?_)
                  replace hs134 := hs113.trans hs134
                  try rw [hs113.r1]
                  try rw [hS1]
                  refine z_ifb_eq (tgt := 167) eX12_bargain_137 rfl (fun h137 => ?_) (fun h137 => ?_)
                  · refine z_ii5 eX12_bargain_167 (Nat.ne_of_beq_eq_false rfl) ?_
                    refine z_goto eX12_bargain_170 (tgt := 68) rfl ?_
                    first | (have e2 := h155; exact hno _ hs152 (fun z => e2 z.2.2.2)) | (have e2 := h137; exact hno _ hs134 (fun z => e2 z.2.2.1)) | (have e2 := h116; exact hno _ hs113 (fun z => z.2.1 ⟨h107, e2⟩)) | (have e2 := h98; exact hno _ (zScr.refl hJS) (fun z => e2 z.1.2)) | exact hno _ (zScr.refl hJS) (fun z => h87 z.1.1) | fail
                  · refine z_al0 eX12_bargain_140 hR.ne ?_
                    refine z_il5 eX12_bargain_141 ?_
                    refine z_al0 eX12_bargain_143 hR.ne ?_
                    refine z_il5 eX12_bargain_144 ?_
                    refine z_iconst eX12_bargain_146 ?_
                    refine z_V2 eX12_bargain_147 vX12_55 rfl rfl (Nat.le_of_ble_eq_true rfl) (Nat.le_of_ble_eq_true rfl) hR.x (m_X12_ofMotion hR ⟨by omega, by omega⟩ (by decide)) ?_
                    try rw [hS1]
                    try rw [hs134.r1]
                    refine z_il3 eX12_bargain_150 ?_
                    refine z_ior eX12_bargain_151 ?_
                    refine z_V2x eX12_bargain_152 vX12_428 rfl rfl (Nat.le_of_ble_eq_true rfl) (Nat.le_of_ble_eq_true rfl) hR.x (m_X12_goesWetBy hR hS hs134.2.2 (by rw [hs134.r1]; exact hMS) ⟨by omega, by omega⟩) (fun s152 hs152 => ?_)
                    replace hs152 := hs134.trans hs152
                    try rw [hs134.r1]
                    try rw [hS1]
                    refine z_ifb_eq (tgt := 167) eX12_bargain_155 rfl (fun h155 => ?_) (fun h155 => ?_)
                    · refine z_ii5 eX12_bargain_167 (Nat.ne_of_beq_eq_false rfl) ?_
                      refine z_goto eX12_bargain_170 (tgt := 68) rfl ?_
                      first | (have e2 := h155; exact hno _ hs152 (fun z => e2 z.2.2.2)) | (have e2 := h137; exact hno _ hs134 (fun z => e2 z.2.2.1)) | (have e2 := h116; exact hno _ hs113 (fun z => z.2.1 ⟨h107, e2⟩)) | (have e2 := h98; exact hno _ (zScr.refl hJS) (fun z => e2 z.1.2)) | exact hno _ (zScr.refl hJS) (fun z => h87 z.1.1) | fail
                    · refine z_bipush eX12_bargain_158 (by decide) ?_
                      refine z_il4 eX12_bargain_160 ?_
                      refine z_imul eX12_bargain_162 ?_
                      refine z_il5 eX12_bargain_163 ?_
                      refine z_iadd eX12_bargain_165 ?_
                      refine z_ireturn eX12_bargain_166 rfl ?_
                      (have hc : ¬ (qGo (σ 1) a 2 (σ 1 6) = 1 ∧ qGo (σ 1) b 2 (σ 1 6) = 1) := by first | (have e3 := h116; exact fun z => e3 z.2) | exact fun z => h107 z.1); rw [zif_t ⟨⟨h87, h98⟩, hc, h137, h155⟩] at hq; rw [← hq, if_neg (by omega)] at hr; exact zXe (hSc.trans hs152) hr
                · refine z_goto eX12_bargain_119 (tgt := 167) rfl ?_
                  refine z_ii5 eX12_bargain_167 (Nat.ne_of_beq_eq_false rfl) ?_
                  refine z_goto eX12_bargain_170 (tgt := 68) rfl ?_
                  first | (have e2 := h155; exact hno _ hs152 (fun z => e2 z.2.2.2)) | (have e2 := h137; exact hno _ hs134 (fun z => e2 z.2.2.1)) | (have e2 := h116; exact hno _ hs113 (fun z => z.2.1 ⟨h107, e2⟩)) | (have e2 := h98; exact hno _ (zScr.refl hJS) (fun z => e2 z.1.2)) | exact hno _ (zScr.refl hJS) (fun z => h87 z.1.1) | fail
      have hS1 : S 1 = σ 1 := by rw [hSc.r1, zset_001]
      refine z_il4 eX12_bargain_54 ?_
      refine z_al0 eX12_bargain_56 hR.ne ?_
      refine z_ra lX12_7 eX12_bargain_57 rfl hR rfl ?_
      try rw [hS1]
      refine z_iconst eX12_bargain_60 ?_
      refine z_rl eX12_bargain_61 hR (by decide) rfl rfl ⟨by omega, by omega⟩ ?_
      try rw [hS1]
      refine z_icmp_ge (tgt := 179) eX12_bargain_62 rfl ⟨⟨by omega, by omega⟩, ⟨by omega, by omega⟩⟩ (fun h62 => (by exfalso; omega)) (fun h62 => ?_)
      refine z_iconst eX12_bargain_65 ?_
      refine z_is5 eX12_bargain_66 (Nat.ne_of_beq_eq_false rfl) ?_
      exact w68 (σ 1 4).toNat 0 S (by omega) (by decide) hSc rfl
  refine z_al0 eX12_bargain_0 hR.ne ?_
  refine z_al0 eX12_bargain_1 hR.ne ?_
  refine z_il1 eX12_bargain_2 ?_
  refine z_V1 eX12_bargain_3 vX12_317 rfl rfl (Nat.le_of_ble_eq_true rfl) (Nat.le_of_ble_eq_true rfl) hR.x (m_X12_isMember hR ⟨by omega, by omega⟩ hm3) ?_
  refine z_ifb_eq (tgt := 17) eX12_bargain_6 rfl (fun h6 => ?_) (fun h6 => ?_)
  · refine z_iconst eX12_bargain_17 ?_
    refine z_goto eX12_bargain_18 (tgt := 31) rfl ?_
    refine z_rp (j := 0) lX12_48 eX12_bargain_31 rfl hR rfl rfl ?_
    refine z_al0 eX12_bargain_34 hR.ne ?_
    refine z_rg (j := 0) lX12_48 eX12_bargain_35 rfl hR rfl rfl ?_
    rw [zset_eq]
    refine z_if_le (tgt := 43) eX12_bargain_38 rfl ⟨by omega, by omega⟩ (fun h38 => (by exfalso; omega)) (fun h38 => ?_)
    refine z_iconst eX12_bargain_41 ?_
    refine z_ireturn eX12_bargain_42 rfl ?_
    first | (rw [qThr2_1 (by omega), if_neg (by decide)]; exact zXe (zScr.refl (hJ1 _)) rfl) | (rw [qThr2_2 (by omega) (fun z => z h23), if_neg (by decide)]; exact zXe (zScr.refl (hJ1 _)) rfl)
  · refine z_al0 eX12_bargain_9 hR.ne ?_
    refine z_il2 eX12_bargain_10 ?_
    refine z_V1 eX12_bargain_11 vX12_317 rfl rfl (Nat.le_of_ble_eq_true rfl) (Nat.le_of_ble_eq_true rfl) hR.x (m_X12_isMember hR ⟨by omega, by omega⟩ hm3) ?_
    refine z_ifb_ne (tgt := 21) eX12_bargain_14 rfl (fun h14 => ?_) (fun h14 => ?_)
    · refine z_il1 eX12_bargain_21 ?_
      refine z_il2 eX12_bargain_22 ?_
      refine z_icmp_ne (tgt := 30) eX12_bargain_23 rfl ⟨⟨by omega, by omega⟩, ⟨by omega, by omega⟩⟩ (fun h23 => ?_) (fun h23 => ?_)
      · refine z_iconst eX12_bargain_30 ?_
        refine z_rp (j := 0) lX12_48 eX12_bargain_31 rfl hR rfl rfl ?_
        refine z_al0 eX12_bargain_34 hR.ne ?_
        refine z_rg (j := 0) lX12_48 eX12_bargain_35 rfl hR rfl rfl ?_
        rw [zset_eq]
        refine z_if_le (tgt := 43) eX12_bargain_38 rfl ⟨by omega, by omega⟩ (fun h38 => ?_) (fun h38 => (by exfalso; omega))
        refine z_iconst eX12_bargain_43 ?_
        refine z_il1 eX12_bargain_44 ?_
        refine z_ishl eX12_bargain_45 ?_
        refine z_iconst eX12_bargain_46 ?_
        refine z_il2 eX12_bargain_47 ?_
        refine z_ishl eX12_bargain_48 ?_
        refine z_ior eX12_bargain_49 ?_
        refine z_is3 eX12_bargain_50 (Nat.ne_of_beq_eq_false rfl) ?_
        refine z_iconst eX12_bargain_51 ?_
        refine z_is4 eX12_bargain_52 (Nat.ne_of_beq_eq_false rfl) ?_
        rw [qThr2_0 (by omega) h23, if_pos rfl]; exact w54 (σ 1 4).toNat 0 _ _ _ (by omega) (by decide) (Nat.ne_of_beq_eq_false rfl) (zScr.refl (hJ1 0)) rfl
      · refine z_iconst eX12_bargain_26 ?_
        refine z_goto eX12_bargain_27 (tgt := 31) rfl ?_
        refine z_rp (j := 0) lX12_48 eX12_bargain_31 rfl hR rfl rfl ?_
        refine z_al0 eX12_bargain_34 hR.ne ?_
        refine z_rg (j := 0) lX12_48 eX12_bargain_35 rfl hR rfl rfl ?_
        rw [zset_eq]
        refine z_if_le (tgt := 43) eX12_bargain_38 rfl ⟨by omega, by omega⟩ (fun h38 => (by exfalso; omega)) (fun h38 => ?_)
        refine z_iconst eX12_bargain_41 ?_
        refine z_ireturn eX12_bargain_42 rfl ?_
        first | (rw [qThr2_1 (by omega), if_neg (by decide)]; exact zXe (zScr.refl (hJ1 _)) rfl) | (rw [qThr2_2 (by omega) (fun z => z h23), if_neg (by decide)]; exact zXe (zScr.refl (hJ1 _)) rfl)
    · refine z_iconst eX12_bargain_17 ?_
      refine z_goto eX12_bargain_18 (tgt := 31) rfl ?_
      refine z_rp (j := 0) lX12_48 eX12_bargain_31 rfl hR rfl rfl ?_
      refine z_al0 eX12_bargain_34 hR.ne ?_
      refine z_rg (j := 0) lX12_48 eX12_bargain_35 rfl hR rfl rfl ?_
      rw [zset_eq]
      refine z_if_le (tgt := 43) eX12_bargain_38 rfl ⟨by omega, by omega⟩ (fun h38 => (by exfalso; omega)) (fun h38 => ?_)
      refine z_iconst eX12_bargain_41 ?_
      refine z_ireturn eX12_bargain_42 rfl ?_
      first | (rw [qThr2_1 (by omega), if_neg (by decide)]; exact zXe (zScr.refl (hJ1 _)) rfl) | (rw [qThr2_2 (by omega) (fun z => z h23), if_neg (by decide)]; exact zXe (zScr.refl (hJ1 _)) rfl)
