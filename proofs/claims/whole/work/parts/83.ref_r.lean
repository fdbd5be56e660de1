/-! Windows. -/
def qSeenK (c a n : Int) : Int := zfold (fun k r => zor r (if -1 ≤ k - c ∧ k - c ≤ 1 then zshl 1 k else 0)) a n
def qSeen (M : Int → Int) (set n : Int) : Int := zfold (fun p r => if zbit set p = 1 then qSeenK (M (46 + 4 * p + 0)) r 8 else r) 0 n
theorem m_X12_seenBy {G : zG} {lay : zLay} {σ C0 : zMem} {nx x : Int} {set : Int} (hR : RefL lay x) (hM : zOK (σ 1)) : zMM G 2 KX12_seenBy [zP x, zI set] lay (rC x σ C0) nx (0, 0) (zR (some (zI (qSeen (σ 1) set (σ 1 3)))) lay (rC x (σ) C0) nx) := by
  refine z_met' (L := [zP x, zI set, zU, zU, zU]) gX12_seenBy.1 rfl rfl (Nat.le_of_ble_eq_true rfl) rfl ?_
  have hm3 := hM.1.m3
  have hl : ∀ p : Int, 0 ≤ p → p ≤ σ 1 3 → ∀ y : zAV, zW G KX12_seenBy 2 (zR (some (zI (qSeen (σ 1) set (σ 1 3)))) lay (rC x σ C0) nx) 4 [zP x, zI set, zI (qSeen (σ 1) set p), zI p, y] [] lay (rC x σ C0) nx (0, 0) := by
    refine z_up (σ 1 3) ?_ ?_
    · intro y
      refine z_il3 eX12_seenBy_4 ?_
      refine z_al0 eX12_seenBy_5 hR.ne ?_
      refine z_ra lX12_7 eX12_seenBy_6 rfl hR rfl ?_
      refine z_iconst eX12_seenBy_9 ?_
      refine z_rl eX12_seenBy_10 hR (by decide) rfl rfl ⟨by omega, by omega⟩ ?_
      refine z_icmp_ge (tgt := 72) eX12_seenBy_11 rfl ⟨⟨by omega, by omega⟩, ⟨by omega, by omega⟩⟩ (fun h11 => ?_) (fun h11 => (by exfalso; omega))
      refine z_il2 eX12_seenBy_72 ?_
      refine z_ireturn eX12_seenBy_73 rfl ?_
      first | exact ⟨rfl, rfl, rfl, rfl⟩ | exact zRb1 (by omega) | exact zRb0 (by omega) | exact zRe (by omega)
    · intro p p0 p1 ih y
      have hU := hM.1.U (p := p) ⟨p0, by omega⟩
      have e : qSeen (σ 1) set (p + 1) = if zbit set p = 1 then qSeenK (σ 1 (46 + 4 * p + 0)) (qSeen (σ 1) set p) 8 else qSeen (σ 1) set p := by unfold qSeen; rw [zfold_s _ _ p0]
      rw [e] at ih
      generalize qSeen (σ 1) set p = a at ih ⊢
      by_cases hb : zbit set p = 1
      · rw [if_pos hb] at ih
        have hin : ∀ k : Int, 0 ≤ k → k ≤ 8 → zW G KX12_seenBy 2 (zR (some (zI (qSeen (σ 1) set (σ 1 3)))) lay (rC x σ C0) nx) 17 [zP x, zI set, zI (qSeenK (σ 1 (46 + 4 * p + 0)) a k), zI p, zI k] [] lay (rC x σ C0) nx (0, 0) := by
          refine z_up 8 ?_ ?_
          · skip
            refine z_il4 eX12_seenBy_17 ?_
            refine z_bipush eX12_seenBy_19 (by decide) ?_
            refine z_icmp_ge (tgt := 66) eX12_seenBy_21 rfl ⟨⟨by omega, by omega⟩, ⟨by omega, by omega⟩⟩ (fun h21 => ?_) (fun h21 => (by exfalso; omega))
            refine z_ii3 eX12_seenBy_66 (Nat.ne_of_beq_eq_false rfl) ?_
            refine z_goto eX12_seenBy_69 (tgt := 4) rfl ?_
            exact ih _
          · intro k k0 k1 ih2
            have e2 : qSeenK (σ 1 (46 + 4 * p + 0)) a (k + 1) = zor (qSeenK (σ 1 (46 + 4 * p + 0)) a k) (if -1 ≤ k - σ 1 (46 + 4 * p + 0) ∧ k - σ 1 (46 + 4 * p + 0) ≤ 1 then zshl 1 k else 0) := by unfold qSeenK; rw [zfold_s _ _ k0]
            rw [e2] at ih2
            refine z_il4 eX12_seenBy_17 ?_
            refine z_bipush eX12_seenBy_19 (by decide) ?_
            refine z_icmp_ge (tgt := 66) eX12_seenBy_21 rfl ⟨⟨by omega, by omega⟩, ⟨by omega, by omega⟩⟩ (fun h21 => (by exfalso; omega)) (fun h21 => ?_)
            refine z_il1 eX12_seenBy_24 ?_
            refine z_il3 eX12_seenBy_25 ?_
            refine z_S2 eX12_seenBy_26 vX12_290 rfl rfl (Nat.le_of_ble_eq_true rfl) (Nat.le_of_ble_eq_true rfl) (m_X12_isOf ) ?_
            refine z_ifb_eq (tgt := 66) eX12_seenBy_29 rfl (fun h29 => absurd hb h29) (fun h29 => ?_)
            refine z_il2 eX12_seenBy_32 ?_
            refine z_il4 eX12_seenBy_33 ?_
            refine z_al0 eX12_seenBy_35 hR.ne ?_
            refine z_il3 eX12_seenBy_36 ?_
            refine z_iconst eX12_seenBy_37 ?_
            refine z_V2 eX12_seenBy_38 vX12_62 rfl rfl (Nat.le_of_ble_eq_true rfl) (Nat.le_of_ble_eq_true rfl) hR.x (m_X12_of hR ⟨by omega, by omega⟩ (by decide)) ?_
            refine z_isub eX12_seenBy_41 ?_
            refine z_iconst eX12_seenBy_42 ?_
            refine z_iconst eX12_seenBy_43 ?_
            refine z_S3 eX12_seenBy_44 vX12_51 rfl rfl (Nat.le_of_ble_eq_true rfl) (Nat.le_of_ble_eq_true rfl) (m_X12_isIn (by refine ⟨?_, ?_, ?_⟩ <;> first | omega | decide | assumption)) ?_
            refine z_ifb_eq (tgt := 57) eX12_seenBy_47 rfl (fun h47 => ?_) (fun h47 => ?_)
            · refine z_iconst eX12_seenBy_57 ?_
              refine z_ior eX12_seenBy_58 ?_
              refine z_is2 eX12_seenBy_59 (Nat.ne_of_beq_eq_false rfl) ?_
              refine z_ii4 eX12_seenBy_60 (Nat.ne_of_beq_eq_false rfl) ?_
              refine z_goto eX12_seenBy_63 (tgt := 17) rfl ?_
              first | (rw [if_pos h47] at ih2; exact ih2) | (rw [if_neg h47] at ih2; exact ih2) | fail
            · refine z_iconst eX12_seenBy_50 ?_
              refine z_il4 eX12_seenBy_51 ?_
              refine z_ishl eX12_seenBy_53 ?_
              refine z_goto eX12_seenBy_54 (tgt := 58) rfl ?_
              refine z_ior eX12_seenBy_58 ?_
              refine z_is2 eX12_seenBy_59 (Nat.ne_of_beq_eq_false rfl) ?_
              refine z_ii4 eX12_seenBy_60 (Nat.ne_of_beq_eq_false rfl) ?_
              refine z_goto eX12_seenBy_63 (tgt := 17) rfl ?_
              first | (rw [if_pos h47] at ih2; exact ih2) | (rw [if_neg h47] at ih2; exact ih2) | fail
        refine z_il3 eX12_seenBy_4 ?_
        refine z_al0 eX12_seenBy_5 hR.ne ?_
        refine z_ra lX12_7 eX12_seenBy_6 rfl hR rfl ?_
        refine z_iconst eX12_seenBy_9 ?_
        refine z_rl eX12_seenBy_10 hR (by decide) rfl rfl ⟨by omega, by omega⟩ ?_
        refine z_icmp_ge (tgt := 72) eX12_seenBy_11 rfl ⟨⟨by omega, by omega⟩, ⟨by omega, by omega⟩⟩ (fun h11 => (by exfalso; omega)) (fun h11 => ?_)
        refine z_iconst eX12_seenBy_14 ?_
        refine z_is4 eX12_seenBy_15 (Nat.ne_of_beq_eq_false rfl) ?_
        exact hin 0 (by decide) (by decide)
      · rw [if_neg hb] at ih
        refine z_il3 eX12_seenBy_4 ?_
        refine z_al0 eX12_seenBy_5 hR.ne ?_
        refine z_ra lX12_7 eX12_seenBy_6 rfl hR rfl ?_
        refine z_iconst eX12_seenBy_9 ?_
        refine z_rl eX12_seenBy_10 hR (by decide) rfl rfl ⟨by omega, by omega⟩ ?_
        refine z_icmp_ge (tgt := 72) eX12_seenBy_11 rfl ⟨⟨by omega, by omega⟩, ⟨by omega, by omega⟩⟩ (fun h11 => (by exfalso; omega)) (fun h11 => ?_)
        refine z_iconst eX12_seenBy_14 ?_
        refine z_is4 eX12_seenBy_15 (Nat.ne_of_beq_eq_false rfl) ?_
        refine z_il4 eX12_seenBy_17 ?_
        refine z_bipush eX12_seenBy_19 (by decide) ?_
        refine z_icmp_ge (tgt := 66) eX12_seenBy_21 rfl ⟨⟨by omega, by omega⟩, ⟨by omega, by omega⟩⟩ (fun h21 => (by exfalso; omega)) (fun h21 => ?_)
        refine z_il1 eX12_seenBy_24 ?_
        refine z_il3 eX12_seenBy_25 ?_
        refine z_S2 eX12_seenBy_26 vX12_290 rfl rfl (Nat.le_of_ble_eq_true rfl) (Nat.le_of_ble_eq_true rfl) (m_X12_isOf ) ?_
        refine z_ifb_eq (tgt := 66) eX12_seenBy_29 rfl (fun h29 => ?_) (fun h29 => absurd h29 hb)
        refine z_ii3 eX12_seenBy_66 (Nat.ne_of_beq_eq_false rfl) ?_
        refine z_goto eX12_seenBy_69 (tgt := 4) rfl ?_
        exact ih _
  refine z_iconst eX12_seenBy_0 ?_
  refine z_is2 eX12_seenBy_1 (Nat.ne_of_beq_eq_false rfl) ?_
  refine z_iconst eX12_seenBy_2 ?_
  refine z_is3 eX12_seenBy_3 (Nat.ne_of_beq_eq_false rfl) ?_
  exact hl 0 (by decide) (by omega) _
def qPlaces (M : Int → Int) (n : Int) : Int := zors (fun p => zshl 1 (M (46 + 4 * p + 0))) n
def qWin (M : Int → Int) (n : Int) : Int := zfold (fun set found => if (found = -1 ∨ qbits set < qbits found) ∧ zand (qPlaces M (M 3)) (zxor (qSeen M set (M 3)) (-1)) = 0 then set else found) (-1) n
theorem zshl_b {p : Int} (h : 0 ≤ p ∧ p ≤ 8) : 1 ≤ zshl 1 p ∧ zshl 1 p ≤ 256 := by
  have e := zshl_1 p.toNat (by omega)
  rw [Int.toNat_of_nonneg h.1] at e
  rw [e]
  have h1 := Nat.one_le_two_pow (n := p.toNat)
  have h2 : 2 ^ p.toNat ≤ 2 ^ 8 := Nat.pow_le_pow_right (by decide) (by omega)
  omega
theorem qWin_bd (M : Int → Int) {n : Int} (hn : 0 ≤ n) : -1 ≤ qWin M n ∧ qWin M n ≤ n := by
  have h : -1 ≤ qWin M n ∧ (qWin M n < n ∨ qWin M n = -1) := by
    unfold qWin
    exact zfold_P (f := fun set found => if (found = -1 ∨ qbits set < qbits found) ∧ zand (qPlaces M (M 3)) (zxor (qSeen M set (M 3)) (-1)) = 0 then set else found) (P := fun n (r : Int) => -1 ≤ r ∧ (r < n ∨ r = -1)) (s := -1) ⟨by decide, Or.inr rfl⟩ (fun t r ht h => by split <;> omega) n hn
  omega
theorem m_X12_windows {G : zG} {lay : zLay} {σ C0 : zMem} {nx x : Int} (hR : RefL lay x) (hM : zOK (σ 1)) : zMM G 3 KX12_windows [zP x] lay (rC x σ C0) nx (0, 0) (zR (some (zI (qWin (σ 1) (zshl 1 (σ 1 3))))) lay (rC x (zset σ 0 0 0) C0) nx) := by
  refine z_met' (L := [zP x, zU, zU, zU]) gX12_windows.1 rfl rfl (Nat.le_of_ble_eq_true rfl) rfl ?_
  generalize hS : zset σ 0 0 0 = S
  have hS1 : S 1 = σ 1 := by rw [← hS]; exact zset_001
  have hMS : zOK (S 1) := by rw [hS1]; exact hM
  have hm3 := hM.1.m3
  have hN := zshl_b (p := σ 1 3) ⟨by omega, by omega⟩
  have w40 : ∀ set : Int, 0 ≤ set → set ≤ zshl 1 (σ 1 3) → zW G KX12_windows 3 (zR (some (zI (qWin (σ 1) (zshl 1 (σ 1 3))))) lay (rC x S C0) nx) 40 [zP x, zI (qPlaces (σ 1) (σ 1 3)), zI (qWin (σ 1) set), zI set] [] lay (rC x S C0) nx (0, 0) := by
    refine z_up (zshl 1 (σ 1 3)) ?_ ?_
    · skip
      refine z_il3 eX12_windows_40 ?_
      refine z_iconst eX12_windows_41 ?_
      refine z_al0 eX12_windows_42 hR.ne ?_
      refine z_ra lX12_7 eX12_windows_43 rfl hR rfl ?_
      try rw [hS1]
      refine z_iconst eX12_windows_46 ?_
      refine z_rl eX12_windows_47 hR (by decide) rfl rfl ⟨by omega, by omega⟩ ?_
      try rw [hS1]
      refine z_ishl eX12_windows_48 ?_
      refine z_icmp_ge (tgt := 88) eX12_windows_49 rfl ⟨⟨by omega, by omega⟩, ⟨by omega, by omega⟩⟩ (fun h49 => ?_) (fun h49 => (by exfalso; omega))
      refine z_il2 eX12_windows_88 ?_
      refine z_ireturn eX12_windows_89 rfl ?_
      first | exact ⟨rfl, rfl, rfl, rfl⟩ | exact zRb1 (by omega) | exact zRb0 (by omega) | exact zRe (by omega)
    · intro set s0 s1 ih
      have e : qWin (σ 1) (set + 1) = if (qWin (σ 1) set = -1 ∨ qbits set < qbits (qWin (σ 1) set)) ∧ zand (qPlaces (σ 1) (σ 1 3)) (zxor (qSeen (σ 1) set (σ 1 3)) (-1)) = 0 then set else qWin (σ 1) set := by unfold qWin; rw [zfold_s _ _ s0]
      rw [e] at ih
      have hb := qWin_bd (σ 1) s0
      generalize qWin (σ 1) set = f at ih hb ⊢
      have b1 := qbits_bd set
      have b2 := qbits_bd f
      have hza := zand_in (qPlaces (σ 1) (σ 1 3)) (zxor (qSeen (σ 1) set (σ 1 3)) (-1))
      refine z_il3 eX12_windows_40 ?_
      refine z_iconst eX12_windows_41 ?_
      refine z_al0 eX12_windows_42 hR.ne ?_
      refine z_ra lX12_7 eX12_windows_43 rfl hR rfl ?_
      try rw [hS1]
      refine z_iconst eX12_windows_46 ?_
      refine z_rl eX12_windows_47 hR (by decide) rfl rfl ⟨by omega, by omega⟩ ?_
      try rw [hS1]
      refine z_ishl eX12_windows_48 ?_
      refine z_icmp_ge (tgt := 88) eX12_windows_49 rfl ⟨⟨by omega, by omega⟩, ⟨by omega, by omega⟩⟩ (fun h49 => (by exfalso; omega)) (fun h49 => ?_)
      refine z_il2 eX12_windows_52 ?_
      refine z_iconst eX12_windows_53 ?_
      refine z_icmp_eq (tgt := 68) eX12_windows_54 rfl ⟨⟨by omega, by omega⟩, ⟨by omega, by omega⟩⟩ (fun h54 => ?_) (fun h54 => ?_)
      · refine z_il1 eX12_windows_68 ?_
        refine z_al0 eX12_windows_69 hR.ne ?_
        refine z_il3 eX12_windows_70 ?_
        refine z_V1 eX12_windows_71 vX12_401 rfl rfl (Nat.le_of_ble_eq_true rfl) (Nat.le_of_ble_eq_true rfl) hR.x (m_X12_seenBy hR hMS) ?_
        try rw [hS1]
        refine z_iconst eX12_windows_74 ?_
        refine z_ixor eX12_windows_75 ?_
        refine z_iand eX12_windows_76 ?_
        refine z_if_ne (tgt := 82) eX12_windows_77 rfl hza (fun h77 => ?_) (fun h77 => ?_)
        · refine z_ii3 eX12_windows_82 (Nat.ne_of_beq_eq_false rfl) ?_
          refine z_goto eX12_windows_85 (tgt := 40) rfl ?_
          first | (rw [if_pos ⟨by omega, by assumption⟩] at ih; exact ih) | (rw [if_neg (by intro z; omega)] at ih; exact ih) | fail
        · refine z_il3 eX12_windows_80 ?_
          refine z_is2 eX12_windows_81 (Nat.ne_of_beq_eq_false rfl) ?_
          refine z_ii3 eX12_windows_82 (Nat.ne_of_beq_eq_false rfl) ?_
          refine z_goto eX12_windows_85 (tgt := 40) rfl ?_
          first | (rw [if_pos ⟨by omega, by assumption⟩] at ih; exact ih) | (rw [if_neg (by intro z; omega)] at ih; exact ih) | fail
      · refine z_il3 eX12_windows_57 ?_
        refine z_S1 eX12_windows_58 vX12_283 rfl rfl (Nat.le_of_ble_eq_true rfl) (Nat.le_of_ble_eq_true rfl) (m_X12_bits ) ?_
        try rw [hS1]
        refine z_il2 eX12_windows_61 ?_
        refine z_S1 eX12_windows_62 vX12_283 rfl rfl (Nat.le_of_ble_eq_true rfl) (Nat.le_of_ble_eq_true rfl) (m_X12_bits ) ?_
        try rw [hS1]
        refine z_icmp_ge (tgt := 82) eX12_windows_65 rfl ⟨⟨by omega, by omega⟩, ⟨by omega, by omega⟩⟩ (fun h65 => ?_) (fun h65 => ?_)
        · refine z_ii3 eX12_windows_82 (Nat.ne_of_beq_eq_false rfl) ?_
          refine z_goto eX12_windows_85 (tgt := 40) rfl ?_
          first | (rw [if_pos ⟨by omega, by assumption⟩] at ih; exact ih) | (rw [if_neg (by intro z; omega)] at ih; exact ih) | fail
        · refine z_il1 eX12_windows_68 ?_
          refine z_al0 eX12_windows_69 hR.ne ?_
          refine z_il3 eX12_windows_70 ?_
          refine z_V1 eX12_windows_71 vX12_401 rfl rfl (Nat.le_of_ble_eq_true rfl) (Nat.le_of_ble_eq_true rfl) hR.x (m_X12_seenBy hR hMS) ?_
          try rw [hS1]
          refine z_iconst eX12_windows_74 ?_
          refine z_ixor eX12_windows_75 ?_
          refine z_iand eX12_windows_76 ?_
          refine z_if_ne (tgt := 82) eX12_windows_77 rfl hza (fun h77 => ?_) (fun h77 => ?_)
          · refine z_ii3 eX12_windows_82 (Nat.ne_of_beq_eq_false rfl) ?_
            refine z_goto eX12_windows_85 (tgt := 40) rfl ?_
            first | (rw [if_pos ⟨by omega, by assumption⟩] at ih; exact ih) | (rw [if_neg (by intro z; omega)] at ih; exact ih) | fail
          · refine z_il3 eX12_windows_80 ?_
            refine z_is2 eX12_windows_81 (Nat.ne_of_beq_eq_false rfl) ?_
            refine z_ii3 eX12_windows_82 (Nat.ne_of_beq_eq_false rfl) ?_
            refine z_goto eX12_windows_85 (tgt := 40) rfl ?_
            first | (rw [if_pos ⟨by omega, by assumption⟩] at ih; exact ih) | (rw [if_neg (by intro z; omega)] at ih; exact ih) | fail
  have w9 : ∀ p : Int, 0 ≤ p → p ≤ σ 1 3 → zW G KX12_windows 3 (zR (some (zI (qWin (σ 1) (zshl 1 (σ 1 3))))) lay (rC x S C0) nx) 9 [zP x, zI (qPlaces (σ 1) p), zI p, zU] [] lay (rC x S C0) nx (0, 0) := by
    refine z_up (σ 1 3) ?_ ?_
    · skip
      refine z_il2 eX12_windows_9 ?_
      refine z_al0 eX12_windows_10 hR.ne ?_
      refine z_ra lX12_7 eX12_windows_11 rfl hR rfl ?_
      try rw [hS1]
      refine z_iconst eX12_windows_14 ?_
      refine z_rl eX12_windows_15 hR (by decide) rfl rfl ⟨by omega, by omega⟩ ?_
      try rw [hS1]
      refine z_icmp_ge (tgt := 36) eX12_windows_16 rfl ⟨⟨by omega, by omega⟩, ⟨by omega, by omega⟩⟩ (fun h16 => ?_) (fun h16 => (by exfalso; omega))
      refine z_iconst eX12_windows_36 ?_
      refine z_is2 eX12_windows_37 (Nat.ne_of_beq_eq_false rfl) ?_
      refine z_iconst eX12_windows_38 ?_
      refine z_is3 eX12_windows_39 (Nat.ne_of_beq_eq_false rfl) ?_
      exact w40 0 (by decide) (by omega)
    · intro p p0 p1 ih
      have e : qPlaces (σ 1) (p + 1) = zor (qPlaces (σ 1) p) (zshl 1 (σ 1 (46 + 4 * p + 0))) := zors_s _ p0
      rw [e] at ih
      refine z_il2 eX12_windows_9 ?_
      refine z_al0 eX12_windows_10 hR.ne ?_
      refine z_ra lX12_7 eX12_windows_11 rfl hR rfl ?_
      try rw [hS1]
      refine z_iconst eX12_windows_14 ?_
      refine z_rl eX12_windows_15 hR (by decide) rfl rfl ⟨by omega, by omega⟩ ?_
      try rw [hS1]
      refine z_icmp_ge (tgt := 36) eX12_windows_16 rfl ⟨⟨by omega, by omega⟩, ⟨by omega, by omega⟩⟩ (fun h16 => (by exfalso; omega)) (fun h16 => ?_)
      refine z_il1 eX12_windows_19 ?_
      refine z_iconst eX12_windows_20 ?_
      refine z_al0 eX12_windows_21 hR.ne ?_
      refine z_il2 eX12_windows_22 ?_
      refine z_iconst eX12_windows_23 ?_
      refine z_V2 eX12_windows_24 vX12_62 rfl rfl (Nat.le_of_ble_eq_true rfl) (Nat.le_of_ble_eq_true rfl) hR.x (m_X12_of hR ⟨by omega, by omega⟩ (by decide)) ?_
      try rw [hS1]
      refine z_ishl eX12_windows_27 ?_
      refine z_ior eX12_windows_28 ?_
      refine z_is1 eX12_windows_29 (Nat.ne_of_beq_eq_false rfl) ?_
      refine z_ii2 eX12_windows_30 (Nat.ne_of_beq_eq_false rfl) ?_
      refine z_goto eX12_windows_33 (tgt := 9) rfl ?_
      exact ih
  refine z_al0 eX12_windows_0 hR.ne ?_
  refine z_iconst eX12_windows_1 ?_
  refine z_rp (j := 0) lX12_48 eX12_windows_2 rfl hR rfl rfl ?_
  rw [hS]
  refine z_iconst eX12_windows_5 ?_
  refine z_is1 eX12_windows_6 (Nat.ne_of_beq_eq_false rfl) ?_
  refine z_iconst eX12_windows_7 ?_
  refine z_is2 eX12_windows_8 (Nat.ne_of_beq_eq_false rfl) ?_
  exact w9 0 (by decide) (by omega)
