/-! Rests; sets and the like. -/
theorem qMoved_bd {M : Int → Int} (hM : zOK M) {k : Int} (hk : 0 ≤ k ∧ k < 8) (i : Int) : -5 ≤ qMoved M k i ∧ qMoved M k i ≤ 99 := by
  have hV := hM.1.V hk
  unfold qMoved
  split <;> omega
noncomputable def qMvH (M : Int → Int) (k a b : Int) : Int := if a = 1 then 0 else qMoved M k b
noncomputable def qOtH (M : Int → Int) (k a b : Int) : Int := if a = 1 then -b else -qMoved M k b
theorem m_X12_moverHas {G : zG} {lay : zLay} {σ C0 : zMem} {nx x : Int} {k a c : Int} (hR : RefL lay x) (hS : TxS lay C0) (hJ : zJs σ) (hM : zOL (σ 1)) (hk : 0 ≤ k ∧ k < 8) (ha : a = 0 ∨ a = 1) (hc : c = 0 ∨ c = 1) : zMM G 69 KX12_moverHas [zP x, zI k, zI a, zI c] lay (rC x σ C0) nx (0, 0) (zX' (some (zI (qMvH (σ 1) k a c))) (zScr σ) lay C0 nx x) := by
  refine z_met' (L := [zP x, zI k, zI a, zI c]) gX12_moverHas.1 rfl rfl (Nat.le_of_ble_eq_true rfl) rfl ?_
  unfold qMvH
  rcases hc with hc | hc <;> subst hc
  · skip
    refine z_il2 eX12_moverHas_0 ?_
    refine z_iconst eX12_moverHas_1 ?_
    refine z_icmp_ne (tgt := 9) eX12_moverHas_2 rfl ⟨⟨by omega, by omega⟩, ⟨by omega, by omega⟩⟩ (fun h2 => ?_) (fun h2 => ?_)
    · refine z_al0 eX12_moverHas_9 hR.ne ?_
      refine z_il1 eX12_moverHas_10 ?_
      refine z_il3 eX12_moverHas_11 ?_
      refine z_iconst eX12_moverHas_12 ?_
      refine z_icmp_ne (tgt := 20) eX12_moverHas_13 rfl ⟨⟨by omega, by omega⟩, ⟨by omega, by omega⟩⟩ (fun h13 => ?_) (fun h13 => (by exfalso; omega))
      refine z_iconst eX12_moverHas_20 ?_
      refine z_V2x eX12_moverHas_21 vX12_440 rfl rfl (Nat.le_of_ble_eq_true rfl) (Nat.le_of_ble_eq_true rfl) hR.x (m_X12_movedHas hR hS hJ hM hk (by first | exact Or.inl rfl | exact Or.inr rfl)) (fun s21 hs21 => ?_)
      refine z_ireturn eX12_moverHas_24 rfl ?_
      first | (rw [if_neg h2]; exact zXe hs21 rfl) | (rw [if_pos h2]; exact zXe (zScr.refl hJ) rfl)
    · refine z_iconst eX12_moverHas_5 ?_
      refine z_goto eX12_moverHas_6 (tgt := 24) rfl ?_
      refine z_ireturn eX12_moverHas_24 rfl ?_
      first | (rw [if_neg h2]; exact zXe hs21 rfl) | (rw [if_pos h2]; exact zXe (zScr.refl hJ) rfl)
  · skip
    refine z_il2 eX12_moverHas_0 ?_
    refine z_iconst eX12_moverHas_1 ?_
    refine z_icmp_ne (tgt := 9) eX12_moverHas_2 rfl ⟨⟨by omega, by omega⟩, ⟨by omega, by omega⟩⟩ (fun h2 => ?_) (fun h2 => ?_)
    · refine z_al0 eX12_moverHas_9 hR.ne ?_
      refine z_il1 eX12_moverHas_10 ?_
      refine z_il3 eX12_moverHas_11 ?_
      refine z_iconst eX12_moverHas_12 ?_
      refine z_icmp_ne (tgt := 20) eX12_moverHas_13 rfl ⟨⟨by omega, by omega⟩, ⟨by omega, by omega⟩⟩ (fun h13 => (by exfalso; omega)) (fun h13 => ?_)
      refine z_iconst eX12_moverHas_16 ?_
      refine z_goto eX12_moverHas_17 (tgt := 21) rfl ?_
      refine z_V2x eX12_moverHas_21 vX12_440 rfl rfl (Nat.le_of_ble_eq_true rfl) (Nat.le_of_ble_eq_true rfl) hR.x (m_X12_movedHas hR hS hJ hM hk (by first | exact Or.inl rfl | exact Or.inr rfl)) (fun s21 hs21 => ?_)
      refine z_ireturn eX12_moverHas_24 rfl ?_
      first | (rw [if_neg h2]; exact zXe hs21 rfl) | (rw [if_pos h2]; exact zXe (zScr.refl hJ) rfl)
    · refine z_iconst eX12_moverHas_5 ?_
      refine z_goto eX12_moverHas_6 (tgt := 24) rfl ?_
      refine z_ireturn eX12_moverHas_24 rfl ?_
      first | (rw [if_neg h2]; exact zXe hs21 rfl) | (rw [if_pos h2]; exact zXe (zScr.refl hJ) rfl)
theorem m_X12_othersHave {G : zG} {lay : zLay} {σ C0 : zMem} {nx x : Int} {k a c : Int} (hR : RefL lay x) (hS : TxS lay C0) (hJ : zJs σ) (hM : zOL (σ 1)) (hk : 0 ≤ k ∧ k < 8) (ha : a = 0 ∨ a = 1) (hc : c = 0 ∨ c = 1) : zMM G 69 KX12_othersHave [zP x, zI k, zI a, zI c] lay (rC x σ C0) nx (0, 0) (zX' (some (zI (qOtH (σ 1) k a c))) (zScr σ) lay C0 nx x) := by
  refine z_met' (L := [zP x, zI k, zI a, zI c]) gX12_othersHave.1 rfl rfl (Nat.le_of_ble_eq_true rfl) rfl ?_
  unfold qOtH
  rcases hc with hc | hc <;> subst hc
  · skip
    refine z_il2 eX12_othersHave_0 ?_
    refine z_iconst eX12_othersHave_1 ?_
    refine z_icmp_ne (tgt := 10) eX12_othersHave_2 rfl ⟨⟨by omega, by omega⟩, ⟨by omega, by omega⟩⟩ (fun h2 => ?_) (fun h2 => ?_)
    · refine z_al0 eX12_othersHave_10 hR.ne ?_
      refine z_il1 eX12_othersHave_11 ?_
      refine z_il3 eX12_othersHave_12 ?_
      refine z_iconst eX12_othersHave_13 ?_
      refine z_icmp_ne (tgt := 21) eX12_othersHave_14 rfl ⟨⟨by omega, by omega⟩, ⟨by omega, by omega⟩⟩ (fun h14 => ?_) (fun h14 => (by exfalso; omega))
      refine z_iconst eX12_othersHave_21 ?_
      refine z_V2x eX12_othersHave_22 vX12_440 rfl rfl (Nat.le_of_ble_eq_true rfl) (Nat.le_of_ble_eq_true rfl) hR.x (m_X12_movedHas hR hS hJ hM hk (by first | exact Or.inl rfl | exact Or.inr rfl)) (fun s22 hs22 => ?_)
      refine z_ineg eX12_othersHave_25 ?_
      refine z_ireturn eX12_othersHave_26 rfl ?_
      first | (rw [if_neg h2]; exact zXe hs22 rfl) | (rw [if_pos h2]; exact zXe (zScr.refl hJ) rfl)
    · refine z_il3 eX12_othersHave_5 ?_
      refine z_ineg eX12_othersHave_6 ?_
      refine z_goto eX12_othersHave_7 (tgt := 26) rfl ?_
      refine z_ireturn eX12_othersHave_26 rfl ?_
      first | (rw [if_neg h2]; exact zXe hs22 rfl) | (rw [if_pos h2]; exact zXe (zScr.refl hJ) rfl)
  · skip
    refine z_il2 eX12_othersHave_0 ?_
    refine z_iconst eX12_othersHave_1 ?_
    refine z_icmp_ne (tgt := 10) eX12_othersHave_2 rfl ⟨⟨by omega, by omega⟩, ⟨by omega, by omega⟩⟩ (fun h2 => ?_) (fun h2 => ?_)
    · refine z_al0 eX12_othersHave_10 hR.ne ?_
      refine z_il1 eX12_othersHave_11 ?_
      refine z_il3 eX12_othersHave_12 ?_
      refine z_iconst eX12_othersHave_13 ?_
      refine z_icmp_ne (tgt := 21) eX12_othersHave_14 rfl ⟨⟨by omega, by omega⟩, ⟨by omega, by omega⟩⟩ (fun h14 => (by exfalso; omega)) (fun h14 => ?_)
      refine z_iconst eX12_othersHave_17 ?_
      refine z_goto eX12_othersHave_18 (tgt := 22) rfl ?_
      refine z_V2x eX12_othersHave_22 vX12_440 rfl rfl (Nat.le_of_ble_eq_true rfl) (Nat.le_of_ble_eq_true rfl) hR.x (m_X12_movedHas hR hS hJ hM hk (by first | exact Or.inl rfl | exact Or.inr rfl)) (fun s22 hs22 => ?_)
      refine z_ineg eX12_othersHave_25 ?_
      refine z_ireturn eX12_othersHave_26 rfl ?_
      first | (rw [if_neg h2]; exact zXe hs22 rfl) | (rw [if_pos h2]; exact zXe (zScr.refl hJ) rfl)
    · refine z_il3 eX12_othersHave_5 ?_
      refine z_ineg eX12_othersHave_6 ?_
      refine z_goto eX12_othersHave_7 (tgt := 26) rfl ?_
      refine z_ireturn eX12_othersHave_26 rfl ?_
      first | (rw [if_neg h2]; exact zXe hs22 rfl) | (rw [if_pos h2]; exact zXe (zScr.refl hJ) rfl)
theorem qMvH_bd {M : Int → Int} (hM : zOK M) {k : Int} (hk : 0 ≤ k ∧ k < 8) (a b : Int) : -5 ≤ qMvH M k a b ∧ qMvH M k a b ≤ 99 := by
  have := qMoved_bd hM hk b
  unfold qMvH; split <;> omega
theorem qOtH_bd {M : Int → Int} (hM : zOK M) {k : Int} (hk : 0 ≤ k ∧ k < 8) (a : Int) {b : Int} (hb : 0 ≤ b ∧ b ≤ 1) : -99 ≤ qOtH M k a b ∧ qOtH M k a b ≤ 5 := by
  have := qMoved_bd hM hk b
  unfold qOtH; split <;> omega
noncomputable def qRests (M : Int → Int) (k n : Int) : Int := zfold (fun i r => if qMvH M k (1 - i / 2) (i % 2) ≤ qMvH M k (i / 2) (i % 2) ∧ qOtH M k (i / 2) (1 - i % 2) ≤ qOtH M k (i / 2) (i % 2) then zor r (zshl 1 i) else r) 0 n
theorem m_X12_rests {G : zG} {lay : zLay} {σ C0 : zMem} {nx x : Int} {k : Int} (hR : RefL lay x) (hS : TxS lay C0) (hJ : zJs σ) (hM : zOL (σ 1)) (hk : zin k) : zMM G 70 KX12_rests [zP x, zI k] lay (rC x σ C0) nx (0, 0) (zX' (some (zI (if 0 ≤ k ∧ k < σ 1 4 then (if σ 1 (74 + 5 * k + 4) = 0 then qRests (σ 1) k 4 else -1) else 0))) (zScr (zset σ 0 0 (qThr1 (0 ≤ k ∧ k < σ 1 4)))) lay C0 nx x) := by
  refine z_met' (L := [zP x, zI k, zU, zU, zU, zU]) gX12_rests.1 rfl rfl (Nat.le_of_ble_eq_true rfl) rfl ?_
  obtain ⟨k1, k2⟩ := hk
  have hm4 := hM.1.1.m4
  have hJ1 : ∀ v, zJs (zset σ 0 0 v) := fun v => hJ.set (by decide) (fun _ => Or.inl rfl)
  by_cases hkk : 0 ≤ k ∧ k < σ 1 4
  · rw [if_pos hkk, qThr1_t hkk]
    have hk : 0 ≤ k ∧ k < 8 := by omega
    have hV := hM.1.1.V hk
    have w40 : ∀ i : Int, 0 ≤ i → i ≤ 4 → ∀ (S : zMem) (y4 y5 : zAV), y4.1 ≠ 1 → zScr (zset σ 0 0 0) S → zW G KX12_rests 70 (zX' (some (zI (qRests (σ 1) k 4))) (zScr (zset σ 0 0 0)) lay C0 nx x) 40 [zP x, zI k, zI (qRests (σ 1) k i), zI i, y4, y5] [] lay (rC x S C0) nx (0, 0) := by
      refine z_up 4 ?_ ?_
      · intro S y4 y5 hy hSc
        refine z_il3 eX12_rests_40 ?_
        refine z_iconst eX12_rests_41 ?_
        refine z_icmp_ge (tgt := 113) eX12_rests_42 rfl ⟨⟨by omega, by omega⟩, ⟨by omega, by omega⟩⟩ (fun h42 => ?_) (fun h42 => (by exfalso; omega))
        refine z_il2 eX12_rests_113 ?_
        refine z_ireturn eX12_rests_114 rfl ?_
        exact zXe hSc rfl
      · intro i i0 i1 ih S y4 y5 hy hSc
        have hS1 : S 1 = σ 1 := by rw [hSc.r1, zset_001]
        have hMS : zOL (S 1) := by rw [hS1]; exact hM
        have e : qRests (σ 1) k (i + 1) = if qMvH (σ 1) k (1 - i / 2) (i % 2) ≤ qMvH (σ 1) k (i / 2) (i % 2) ∧ qOtH (σ 1) k (i / 2) (1 - i % 2) ≤ qOtH (σ 1) k (i / 2) (i % 2) then zor (qRests (σ 1) k i) (zshl 1 i) else qRests (σ 1) k i := by unfold qRests; rw [zfold_s _ _ i0]
        rw [e] at ih
        have b1 := qMvH_bd hM.1 hk (1 - i / 2) (i % 2)
        have b2 := qMvH_bd hM.1 hk (i / 2) (i % 2)
        have b3 := qOtH_bd hM.1 hk (i / 2) (b := 1 - i % 2) ⟨by omega, by omega⟩
        have b4 := qOtH_bd hM.1 hk (i / 2) (b := i % 2) ⟨by omega, by omega⟩
        refine z_il3 eX12_rests_40 ?_
        refine z_iconst eX12_rests_41 ?_
        refine z_icmp_ge (tgt := 113) eX12_rests_42 rfl ⟨⟨by omega, by omega⟩, ⟨by omega, by omega⟩⟩ (fun h42 => (by exfalso; omega)) (fun h42 => ?_)
        refine z_il3 eX12_rests_45 ?_
        refine z_iconst eX12_rests_46 ?_
        refine z_idiv eX12_rests_47 ⟨by omega, by omega, by decide, by decide⟩ ?_
        refine z_is4 eX12_rests_48 (Nat.ne_of_beq_eq_false rfl) ?_
        refine z_il3 eX12_rests_50 ?_
        refine z_iconst eX12_rests_51 ?_
        refine z_irem eX12_rests_52 ⟨by omega, by omega, by decide, by decide⟩ ?_
        refine z_is5 eX12_rests_53 (Nat.ne_of_beq_eq_false rfl) ?_
        refine z_al0 eX12_rests_55 hR.ne ?_
        refine z_il1 eX12_rests_56 ?_
        refine z_iconst eX12_rests_57 ?_
        refine z_il4 eX12_rests_58 ?_
        refine z_isub eX12_rests_60 ?_
        refine z_il5 eX12_rests_61 ?_
        refine z_V3x eX12_rests_63 vX12_444 rfl rfl (Nat.le_of_ble_eq_true rfl) (Nat.le_of_ble_eq_true rfl) hR.x (m_X12_moverHas hR hS hSc.2.2 hMS hk (by omega) (by omega)) (fun s63 hs63 => ?_)
        rw [hS1]
        refine z_al0 eX12_rests_66 hR.ne ?_
        refine z_il1 eX12_rests_67 ?_
        refine z_il4 eX12_rests_68 ?_
        refine z_il5 eX12_rests_70 ?_
        refine z_V3x eX12_rests_72 vX12_444 rfl rfl (Nat.le_of_ble_eq_true rfl) (Nat.le_of_ble_eq_true rfl) hR.x (m_X12_moverHas hR hS hs63.2.2 (by rw [hs63.r1]; exact hMS) hk (by omega) (by omega)) (fun s72 hs72 => ?_)
        rw [hs63.r1, hS1]
        replace hs72 := hs63.trans hs72
        try rw [hs63.r1]
        refine z_icmp_gt (tgt := 107) eX12_rests_75 rfl ⟨⟨by omega, by omega⟩, ⟨by omega, by omega⟩⟩ (fun h75 => ?_) (fun h75 => ?_)
        · refine z_ii3 eX12_rests_107 (Nat.ne_of_beq_eq_false rfl) ?_
          refine z_goto eX12_rests_110 (tgt := 40) rfl ?_
          first | (have e2 := h98; first | (rw [if_pos ⟨by omega, by omega⟩] at ih; exact ih s95 _ _ (Nat.ne_of_beq_eq_false rfl) (hSc.trans hs95)) | (rw [if_neg (by omega)] at ih; exact ih s95 _ _ (Nat.ne_of_beq_eq_false rfl) (hSc.trans hs95))) | (rw [if_neg (by omega)] at ih; exact ih s72 _ _ (Nat.ne_of_beq_eq_false rfl) (hSc.trans hs72)) | fail
        · refine z_al0 eX12_rests_78 hR.ne ?_
          refine z_il1 eX12_rests_79 ?_
          refine z_il4 eX12_rests_80 ?_
          refine z_iconst eX12_rests_82 ?_
          refine z_il5 eX12_rests_83 ?_
          refine z_isub eX12_rests_85 ?_
          refine z_V3x eX12_rests_86 vX12_447 rfl rfl (Nat.le_of_ble_eq_true rfl) (Nat.le_of_ble_eq_true rfl) hR.x (m_X12_othersHave hR hS hs72.2.2 (by rw [hs72.r1]; exact hMS) hk (by omega) (by omega)) (fun s86 hs86 => ?_)
          rw [hs72.r1, hS1]
          replace hs86 := hs72.trans hs86
          try rw [hs72.r1]
          refine z_al0 eX12_rests_89 hR.ne ?_
          refine z_il1 eX12_rests_90 ?_
          refine z_il4 eX12_rests_91 ?_
          refine z_il5 eX12_rests_93 ?_
          refine z_V3x eX12_rests_95 vX12_447 rfl rfl (Nat.le_of_ble_eq_true rfl) (Nat.le_of_ble_eq_true rfl) hR.x (m_X12_othersHave hR hS hs86.2.2 (by rw [hs86.r1]; exact hMS) hk (by omega) (by omega)) (fun s95 hs95 => ?_)
          rw [hs86.r1, hS1]
          replace hs95 := hs86.trans hs95
          try rw [hs86.r1]
          refine z_icmp_gt (tgt := 107) eX12_rests_98 rfl ⟨⟨by omega, by omega⟩, ⟨by omega, by omega⟩⟩ (fun h98 => ?_) (fun h98 => ?_)
          · refine z_ii3 eX12_rests_107 (Nat.ne_of_beq_eq_false rfl) ?_
            refine z_goto eX12_rests_110 (tgt := 40) rfl ?_
            first | (have e2 := h98; first | (rw [if_pos ⟨by omega, by omega⟩] at ih; exact ih s95 _ _ (Nat.ne_of_beq_eq_false rfl) (hSc.trans hs95)) | (rw [if_neg (by omega)] at ih; exact ih s95 _ _ (Nat.ne_of_beq_eq_false rfl) (hSc.trans hs95))) | (rw [if_neg (by omega)] at ih; exact ih s72 _ _ (Nat.ne_of_beq_eq_false rfl) (hSc.trans hs72)) | fail
          · refine z_il2 eX12_rests_101 ?_
            refine z_iconst eX12_rests_102 ?_
            refine z_il3 eX12_rests_103 ?_
            refine z_ishl eX12_rests_104 ?_
            refine z_ior eX12_rests_105 ?_
            refine z_is2 eX12_rests_106 (Nat.ne_of_beq_eq_false rfl) ?_
            refine z_ii3 eX12_rests_107 (Nat.ne_of_beq_eq_false rfl) ?_
            refine z_goto eX12_rests_110 (tgt := 40) rfl ?_
            first | (have e2 := h98; first | (rw [if_pos ⟨by omega, by omega⟩] at ih; exact ih s95 _ _ (Nat.ne_of_beq_eq_false rfl) (hSc.trans hs95)) | (rw [if_neg (by omega)] at ih; exact ih s95 _ _ (Nat.ne_of_beq_eq_false rfl) (hSc.trans hs95))) | (rw [if_neg (by omega)] at ih; exact ih s72 _ _ (Nat.ne_of_beq_eq_false rfl) (hSc.trans hs72)) | fail
    refine z_al0 eX12_rests_0 hR.ne ?_
    refine z_al0 eX12_rests_1 hR.ne ?_
    refine z_il1 eX12_rests_2 ?_
    refine z_V1 eX12_rests_3 vX12_326 rfl rfl (Nat.le_of_ble_eq_true rfl) (Nat.le_of_ble_eq_true rfl) hR.x (m_X12_isMotion hR ⟨by omega, by omega⟩ hm4) ?_
    refine z_ifb_ne (tgt := 13) eX12_rests_6 rfl (fun h6 => ?_) (fun h6 => absurd hkk h6)
    refine z_iconst eX12_rests_13 ?_
    refine z_rp (j := 0) lX12_48 eX12_rests_14 rfl hR rfl rfl ?_
    refine z_al0 eX12_rests_17 hR.ne ?_
    refine z_rg (j := 0) lX12_48 eX12_rests_18 rfl hR rfl rfl ?_
    rw [zset_eq]
    refine z_if_le (tgt := 26) eX12_rests_21 rfl ⟨by omega, by omega⟩ (fun h21 => ?_) (fun h21 => (by exfalso; omega))
    refine z_al0 eX12_rests_26 hR.ne ?_
    refine z_il1 eX12_rests_27 ?_
    refine z_V1 eX12_rests_28 vX12_308 rfl rfl (Nat.le_of_ble_eq_true rfl) (Nat.le_of_ble_eq_true rfl) hR.x (m_X12_waits hR hk (by rw [zset_001]; exact ⟨by omega, by omega⟩)) ?_
    rw [zset_001]
    refine z_ifb_ne (tgt := 36) eX12_rests_31 rfl (fun h31 => ?_) (fun h31 => ?_)
    · refine z_iconst eX12_rests_36 ?_
      refine z_is2 eX12_rests_37 (Nat.ne_of_beq_eq_false rfl) ?_
      refine z_iconst eX12_rests_38 ?_
      refine z_is3 eX12_rests_39 (Nat.ne_of_beq_eq_false rfl) ?_
      rw [if_pos h31]; exact w40 0 (by decide) (by decide) _ _ _ (Nat.ne_of_beq_eq_false rfl) (zScr.refl (hJ1 0))
    · refine z_iconst eX12_rests_34 ?_
      refine z_ireturn eX12_rests_35 rfl ?_
      rw [if_neg h31]; exact zXe (zScr.refl (hJ1 0)) rfl
  · rw [if_neg hkk, qThr1_f hkk]
    refine z_al0 eX12_rests_0 hR.ne ?_
    refine z_al0 eX12_rests_1 hR.ne ?_
    refine z_il1 eX12_rests_2 ?_
    refine z_V1 eX12_rests_3 vX12_326 rfl rfl (Nat.le_of_ble_eq_true rfl) (Nat.le_of_ble_eq_true rfl) hR.x (m_X12_isMotion hR ⟨by omega, by omega⟩ hm4) ?_
    refine z_ifb_ne (tgt := 13) eX12_rests_6 rfl (fun h6 => absurd h6 hkk) (fun h6 => ?_)
    refine z_iconst eX12_rests_9 ?_
    refine z_goto eX12_rests_10 (tgt := 14) rfl ?_
    refine z_rp (j := 0) lX12_48 eX12_rests_14 rfl hR rfl rfl ?_
    refine z_al0 eX12_rests_17 hR.ne ?_
    refine z_rg (j := 0) lX12_48 eX12_rests_18 rfl hR rfl rfl ?_
    rw [zset_eq]
    refine z_if_le (tgt := 26) eX12_rests_21 rfl ⟨by omega, by omega⟩ (fun h21 => (by exfalso; omega)) (fun h21 => ?_)
    refine z_iconst eX12_rests_24 ?_
    refine z_ireturn eX12_rests_25 rfl ?_
    exact zXe (zScr.refl (hJ1 _)) rfl
def qTabled (M : Int → Int) (n : Int) : Int := zors (fun h => if M (114 + h) = -1 then 0 else zshl 1 (M (114 + h))) n
theorem m_X12_tabled {G : zG} {lay : zLay} {σ C0 : zMem} {nx x : Int} (hR : RefL lay x) (hM : zOK (σ 1)) : zMM G 1 KX12_tabled [zP x] lay (rC x σ C0) nx (0, 0) (zR (some (zI (qTabled (σ 1) 12))) lay (rC x (zset σ 0 0 0) C0) nx) := by
  refine z_met' (L := [zP x, zU, zU]) gX12_tabled.1 rfl rfl (Nat.le_of_ble_eq_true rfl) rfl ?_
  generalize hS : zset σ 0 0 0 = S
  have hS1 : S 1 = σ 1 := by rw [← hS]; exact zset_001
  have hl : ∀ h : Int, 0 ≤ h → h ≤ 12 → zW G KX12_tabled 1 (zR (some (zI (qTabled (σ 1) 12))) lay (rC x S C0) nx) 9 [zP x, zI (qTabled (σ 1) h), zI h] [] lay (rC x S C0) nx (0, 0) := by
    refine z_up 12 ?_ ?_
    · skip
      refine z_il2 eX12_tabled_9 ?_
      refine z_bipush eX12_tabled_10 (by decide) ?_
      refine z_icmp_ge (tgt := 52) eX12_tabled_12 rfl ⟨⟨by omega, by omega⟩, ⟨by omega, by omega⟩⟩ (fun h12 => ?_) (fun h12 => (by exfalso; omega))
      refine z_il1 eX12_tabled_52 ?_
      refine z_ireturn eX12_tabled_53 rfl ?_
      first | exact ⟨rfl, rfl, rfl, rfl⟩ | exact zRb1 (by omega) | exact zRb0 (by omega) | exact zRe (by omega)
    · intro h h0 h1 ih
      have hP := hM.1.P8 (t := h) ⟨h0, h1⟩
      have e : qTabled (σ 1) (h + 1) = zor (qTabled (σ 1) h) (if σ 1 (114 + h) = -1 then 0 else zshl 1 (σ 1 (114 + h))) := zors_s _ h0
      rw [e] at ih
      refine z_il2 eX12_tabled_9 ?_
      refine z_bipush eX12_tabled_10 (by decide) ?_
      refine z_icmp_ge (tgt := 52) eX12_tabled_12 rfl ⟨⟨by omega, by omega⟩, ⟨by omega, by omega⟩⟩ (fun h12 => (by exfalso; omega)) (fun h12 => ?_)
      refine z_il1 eX12_tabled_15 ?_
      refine z_al0 eX12_tabled_16 hR.ne ?_
      refine z_ra lX12_7 eX12_tabled_17 rfl hR rfl ?_
      try rw [hS1]
      refine z_bipush eX12_tabled_20 (by decide) ?_
      refine z_il2 eX12_tabled_22 ?_
      refine z_iadd eX12_tabled_23 ?_
      refine z_rl eX12_tabled_24 hR (by decide) rfl rfl ⟨by omega, by omega⟩ ?_
      try rw [hS1]
      refine z_iconst eX12_tabled_25 ?_
      refine z_icmp_ne (tgt := 33) eX12_tabled_26 rfl ⟨⟨by omega, by omega⟩, ⟨by omega, by omega⟩⟩ (fun h26 => ?_) (fun h26 => ?_)
      · refine z_iconst eX12_tabled_33 ?_
        refine z_al0 eX12_tabled_34 hR.ne ?_
        refine z_ra lX12_7 eX12_tabled_35 rfl hR rfl ?_
        try rw [hS1]
        refine z_bipush eX12_tabled_38 (by decide) ?_
        refine z_il2 eX12_tabled_40 ?_
        refine z_iadd eX12_tabled_41 ?_
        refine z_rl eX12_tabled_42 hR (by decide) rfl rfl ⟨by omega, by omega⟩ ?_
        try rw [hS1]
        refine z_ishl eX12_tabled_43 ?_
        refine z_ior eX12_tabled_44 ?_
        refine z_is1 eX12_tabled_45 (Nat.ne_of_beq_eq_false rfl) ?_
        refine z_ii2 eX12_tabled_46 (Nat.ne_of_beq_eq_false rfl) ?_
        refine z_goto eX12_tabled_49 (tgt := 9) rfl ?_
        first | (rw [if_pos h26] at ih; exact ih) | (rw [if_neg h26] at ih; exact ih) | fail
      · refine z_iconst eX12_tabled_29 ?_
        refine z_goto eX12_tabled_30 (tgt := 44) rfl ?_
        refine z_ior eX12_tabled_44 ?_
        refine z_is1 eX12_tabled_45 (Nat.ne_of_beq_eq_false rfl) ?_
        refine z_ii2 eX12_tabled_46 (Nat.ne_of_beq_eq_false rfl) ?_
        refine z_goto eX12_tabled_49 (tgt := 9) rfl ?_
        first | (rw [if_pos h26] at ih; exact ih) | (rw [if_neg h26] at ih; exact ih) | fail
  refine z_al0 eX12_tabled_0 hR.ne ?_
  refine z_iconst eX12_tabled_1 ?_
  refine z_rp (j := 0) lX12_48 eX12_tabled_2 rfl hR rfl rfl ?_
  rw [hS]
  refine z_iconst eX12_tabled_5 ?_
  refine z_is1 eX12_tabled_6 (Nat.ne_of_beq_eq_false rfl) ?_
  refine z_iconst eX12_tabled_7 ?_
  refine z_is2 eX12_tabled_8 (Nat.ne_of_beq_eq_false rfl) ?_
  exact hl 0 (by decide) (by decide)
noncomputable def qSoaked (M : Int → Int) (n : Int) : Int := zors (fun p => if M 9 ≤ qFelt M p (M 5) (-1) (M 6) then zshl 1 p else 0) n
theorem m_X12_soaked {G : zG} {lay : zLay} {σ C0 : zMem} {nx x : Int} (hR : RefL lay x) (hS : TxS lay C0) (hJ : zJs σ) (hM : zOL (σ 1)) : zMM G 67 KX12_soaked [zP x] lay (rC x σ C0) nx (0, 0) (zX' (some (zI (qSoaked (σ 1) (σ 1 3)))) (zScr (zset σ 0 0 0)) lay C0 nx x) := by
  refine z_met' (L := [zP x, zU, zU]) gX12_soaked.1 rfl rfl (Nat.le_of_ble_eq_true rfl) rfl ?_
  have hm3 := hM.1.1.m3
  have h5 := hM.1.1.s 5 rfl (by omega)
  have h6 := hM.1.1.s 6 rfl (by omega)
  have h9 := hM.1.1.s 9 rfl (by omega)
  have hJ1 : zJs (zset σ 0 0 0) := hJ.set (by decide) (fun _ => Or.inl rfl)
  have hl : ∀ p : Int, 0 ≤ p → p ≤ σ 1 3 → ∀ S : zMem, zScr (zset σ 0 0 0) S → zW G KX12_soaked 67 (zX' (some (zI (qSoaked (σ 1) (σ 1 3)))) (zScr (zset σ 0 0 0)) lay C0 nx x) 9 [zP x, zI (qSoaked (σ 1) p), zI p] [] lay (rC x S C0) nx (0, 0) := by
    refine z_up (σ 1 3) ?_ ?_
    · intro S hSc
      have hS1 : S 1 = σ 1 := by rw [hSc.r1, zset_001]
      refine z_il2 eX12_soaked_9 ?_
      refine z_al0 eX12_soaked_10 hR.ne ?_
      refine z_ra lX12_7 eX12_soaked_11 rfl hR rfl ?_
      try rw [hS1]
      refine z_iconst eX12_soaked_14 ?_
      refine z_rl eX12_soaked_15 hR (by decide) rfl rfl ⟨by omega, by omega⟩ ?_
      try rw [hS1]
      refine z_icmp_ge (tgt := 64) eX12_soaked_16 rfl ⟨⟨by omega, by omega⟩, ⟨by omega, by omega⟩⟩ (fun h16 => ?_) (fun h16 => (by exfalso; omega))
      refine z_il1 eX12_soaked_64 ?_
      refine z_ireturn eX12_soaked_65 rfl ?_
      exact zXe hSc rfl
    · intro p p0 p1 ih S hSc
      have hS1 : S 1 = σ 1 := by rw [hSc.r1, zset_001]
      have hb := qFelt_bd (σ 1) p (σ 1 5) (-1) (σ 1 6)
      have e : qSoaked (σ 1) (p + 1) = zor (qSoaked (σ 1) p) (if σ 1 9 ≤ qFelt (σ 1) p (σ 1 5) (-1) (σ 1 6) then zshl 1 p else 0) := zors_s _ p0
      rw [e] at ih
      refine z_il2 eX12_soaked_9 ?_
      refine z_al0 eX12_soaked_10 hR.ne ?_
      refine z_ra lX12_7 eX12_soaked_11 rfl hR rfl ?_
      try rw [hS1]
      refine z_iconst eX12_soaked_14 ?_
      refine z_rl eX12_soaked_15 hR (by decide) rfl rfl ⟨by omega, by omega⟩ ?_
      try rw [hS1]
      refine z_icmp_ge (tgt := 64) eX12_soaked_16 rfl ⟨⟨by omega, by omega⟩, ⟨by omega, by omega⟩⟩ (fun h16 => (by exfalso; omega)) (fun h16 => ?_)
      refine z_il1 eX12_soaked_19 ?_
      refine z_al0 eX12_soaked_20 hR.ne ?_
      refine z_il2 eX12_soaked_21 ?_
      refine z_al0 eX12_soaked_22 hR.ne ?_
      refine z_ra lX12_7 eX12_soaked_23 rfl hR rfl ?_
      try rw [hS1]
      refine z_iconst eX12_soaked_26 ?_
      refine z_rl eX12_soaked_27 hR (by decide) rfl rfl ⟨by omega, by omega⟩ ?_
      try rw [hS1]
      refine z_iconst eX12_soaked_28 ?_
      refine z_al0 eX12_soaked_29 hR.ne ?_
      refine z_ra lX12_7 eX12_soaked_30 rfl hR rfl ?_
      try rw [hS1]
      refine z_bipush eX12_soaked_33 (by decide) ?_
      refine z_rl eX12_soaked_35 hR (by decide) rfl rfl ⟨by omega, by omega⟩ ?_
      try rw [hS1]
      refine z_V4x eX12_soaked_36 vX12_286 rfl rfl (Nat.le_of_ble_eq_true rfl) (Nat.le_of_ble_eq_true rfl) hR.x (m_X12_feltBy hR hS hSc.2.2 (by rw [hS1]; exact hM) ⟨by omega, by omega⟩ ⟨by omega, by omega⟩ ⟨by omega, by omega⟩ ⟨by omega, by omega⟩) (fun s36 hs36 => ?_)
      try rw [hS1]
      refine z_al0 eX12_soaked_39 hR.ne ?_
      refine z_ra lX12_7 eX12_soaked_40 rfl hR rfl ?_
      try rw [hS1]
      refine z_bipush eX12_soaked_43 (by decide) ?_
      refine z_rl eX12_soaked_45 hR (by decide) rfl rfl ⟨by omega, by omega⟩ ?_
      try rw [hS1]
      first | rw [hs36.r1] | rw [hs36.r7] | rw [hs36.r8] | rw [hs36.r5] | rw [hs36.r9] | rw [hs36.r11] | skip
      rw [hS1]
      refine z_icmp_lt (tgt := 55) eX12_soaked_46 rfl ⟨⟨by omega, by omega⟩, ⟨by omega, by omega⟩⟩ (fun h46 => ?_) (fun h46 => ?_)
      · refine z_iconst eX12_soaked_55 ?_
        refine z_ior eX12_soaked_56 ?_
        refine z_is1 eX12_soaked_57 (Nat.ne_of_beq_eq_false rfl) ?_
        refine z_ii2 eX12_soaked_58 (Nat.ne_of_beq_eq_false rfl) ?_
        refine z_goto eX12_soaked_61 (tgt := 9) rfl ?_
        first | (rw [if_pos (by omega)] at ih; exact ih s36 (hSc.trans hs36)) | (rw [if_neg (by omega)] at ih; exact ih s36 (hSc.trans hs36)) | fail
      · refine z_iconst eX12_soaked_49 ?_
        refine z_il2 eX12_soaked_50 ?_
        refine z_ishl eX12_soaked_51 ?_
        refine z_goto eX12_soaked_52 (tgt := 56) rfl ?_
        refine z_ior eX12_soaked_56 ?_
        refine z_is1 eX12_soaked_57 (Nat.ne_of_beq_eq_false rfl) ?_
        refine z_ii2 eX12_soaked_58 (Nat.ne_of_beq_eq_false rfl) ?_
        refine z_goto eX12_soaked_61 (tgt := 9) rfl ?_
        first | (rw [if_pos (by omega)] at ih; exact ih s36 (hSc.trans hs36)) | (rw [if_neg (by omega)] at ih; exact ih s36 (hSc.trans hs36)) | fail
  refine z_al0 eX12_soaked_0 hR.ne ?_
  refine z_iconst eX12_soaked_1 ?_
  refine z_rp (j := 0) lX12_48 eX12_soaked_2 rfl hR rfl rfl ?_
  refine z_iconst eX12_soaked_5 ?_
  refine z_is1 eX12_soaked_6 (Nat.ne_of_beq_eq_false rfl) ?_
  refine z_iconst eX12_soaked_7 ?_
  refine z_is2 eX12_soaked_8 (Nat.ne_of_beq_eq_false rfl) ?_
  exact hl 0 (by decide) hm3.1 _ (zScr.refl hJ1)
noncomputable def qTwinI (M : Int → Int) (a n : Int) : Int := zsum (fun j => zbi (M (46 + 4 * a + 0) = M (46 + 4 * (a + 1 + j) + 0) ∧ M (46 + 4 * a + 1) = M (46 + 4 * (a + 1 + j) + 1))) n
noncomputable def qTwins (M : Int → Int) (n : Int) : Int := zsum (fun a => qTwinI M a (M 3 - (a + 1))) n
theorem m_X12_twins {G : zG} {lay : zLay} {σ C0 : zMem} {nx x : Int} (hR : RefL lay x) (hM : zOK (σ 1)) : zMM G 2 KX12_twins [zP x] lay (rC x σ C0) nx (0, 0) (zR (some (zI (qTwins (σ 1) (σ 1 3)))) lay (rC x (zset σ 0 0 0) C0) nx) := by
  refine z_met' (L := [zP x, zU, zU, zU]) gX12_twins.1 rfl rfl (Nat.le_of_ble_eq_true rfl) rfl ?_
  generalize hS : zset σ 0 0 0 = S
  have hS1 : S 1 = σ 1 := by rw [← hS]; exact zset_001
  have hm3 := hM.1.m3
  have w9 : ∀ a : Int, 0 ≤ a → a ≤ σ 1 3 → ∀ y : zAV, zW G KX12_twins 2 (zR (some (zI (qTwins (σ 1) (σ 1 3)))) lay (rC x S C0) nx) 9 [zP x, zI (qTwins (σ 1) a), zI a, y] [] lay (rC x S C0) nx (0, 0) := by
    refine z_up (σ 1 3) ?_ ?_
    · intro y
      refine z_il2 eX12_twins_9 ?_
      refine z_al0 eX12_twins_10 hR.ne ?_
      refine z_ra lX12_7 eX12_twins_11 rfl hR rfl ?_
      try rw [hS1]
      refine z_iconst eX12_twins_14 ?_
      refine z_rl eX12_twins_15 hR (by decide) rfl rfl ⟨by omega, by omega⟩ ?_
      try rw [hS1]
      refine z_icmp_ge (tgt := 83) eX12_twins_16 rfl ⟨⟨by omega, by omega⟩, ⟨by omega, by omega⟩⟩ (fun h16 => ?_) (fun h16 => (by exfalso; omega))
      refine z_il1 eX12_twins_83 ?_
      refine z_ireturn eX12_twins_84 rfl ?_
      first | exact ⟨rfl, rfl, rfl, rfl⟩ | exact zRb1 (by omega) | exact zRb0 (by omega) | exact zRe (by omega)
    · intro a a0 a1 ih y
      have hU := hM.1.U (p := a) ⟨a0, by omega⟩
      have e : qTwins (σ 1) (a + 1) = qTwins (σ 1) a + qTwinI (σ 1) a (σ 1 3 - (a + 1)) := zsum_s _ a0
      rw [e] at ih
      generalize qTwins (σ 1) a = r at ih ⊢
      have w23 : ∀ j : Int, 0 ≤ j → j ≤ σ 1 3 - (a + 1) → zW G KX12_twins 2 (zR (some (zI (qTwins (σ 1) (σ 1 3)))) lay (rC x S C0) nx) 23 [zP x, zI (r + qTwinI (σ 1) a j), zI a, zI (a + 1 + j)] [] lay (rC x S C0) nx (0, 0) := by
        refine z_up (σ 1 3 - (a + 1)) ?_ ?_
        · skip
          refine z_il3 eX12_twins_23 ?_
          refine z_al0 eX12_twins_24 hR.ne ?_
          refine z_ra lX12_7 eX12_twins_25 rfl hR rfl ?_
          try rw [hS1]
          refine z_iconst eX12_twins_28 ?_
          refine z_rl eX12_twins_29 hR (by decide) rfl rfl ⟨by omega, by omega⟩ ?_
          try rw [hS1]
          refine z_icmp_ge (tgt := 77) eX12_twins_30 rfl ⟨⟨by omega, by omega⟩, ⟨by omega, by omega⟩⟩ (fun h30 => ?_) (fun h30 => (by exfalso; omega))
          refine z_ii2 eX12_twins_77 (Nat.ne_of_beq_eq_false rfl) ?_
          refine z_goto eX12_twins_80 (tgt := 9) rfl ?_
          exact ih _
        · intro j j0 j1 ih2
          have hU2 := hM.1.U (p := a + 1 + j) ⟨by omega, by omega⟩
          have e2 : qTwinI (σ 1) a (j + 1) = qTwinI (σ 1) a j + zbi (σ 1 (46 + 4 * a + 0) = σ 1 (46 + 4 * (a + 1 + j) + 0) ∧ σ 1 (46 + 4 * a + 1) = σ 1 (46 + 4 * (a + 1 + j) + 1)) := zsum_s _ j0
          rw [e2, ← Int.add_assoc] at ih2
          refine z_il3 eX12_twins_23 ?_
          refine z_al0 eX12_twins_24 hR.ne ?_
          refine z_ra lX12_7 eX12_twins_25 rfl hR rfl ?_
          try rw [hS1]
          refine z_iconst eX12_twins_28 ?_
          refine z_rl eX12_twins_29 hR (by decide) rfl rfl ⟨by omega, by omega⟩ ?_
          try rw [hS1]
          refine z_icmp_ge (tgt := 77) eX12_twins_30 rfl ⟨⟨by omega, by omega⟩, ⟨by omega, by omega⟩⟩ (fun h30 => (by exfalso; omega)) (fun h30 => ?_)
          refine z_il1 eX12_twins_33 ?_
          refine z_al0 eX12_twins_34 hR.ne ?_
          refine z_il2 eX12_twins_35 ?_
          refine z_iconst eX12_twins_36 ?_
          refine z_V2 eX12_twins_37 vX12_62 rfl rfl (Nat.le_of_ble_eq_true rfl) (Nat.le_of_ble_eq_true rfl) hR.x (m_X12_of hR ⟨by omega, by omega⟩ (by decide)) ?_
          try rw [hS1]
          refine z_al0 eX12_twins_40 hR.ne ?_
          refine z_il3 eX12_twins_41 ?_
          refine z_iconst eX12_twins_42 ?_
          refine z_V2 eX12_twins_43 vX12_62 rfl rfl (Nat.le_of_ble_eq_true rfl) (Nat.le_of_ble_eq_true rfl) hR.x (m_X12_of hR ⟨by omega, by omega⟩ (by decide)) ?_
          try rw [hS1]
          refine z_icmp_ne (tgt := 68) eX12_twins_46 rfl ⟨⟨by omega, by omega⟩, ⟨by omega, by omega⟩⟩ (fun h46 => ?_) (fun h46 => ?_)
          · refine z_iconst eX12_twins_68 ?_
            refine z_iadd eX12_twins_69 ?_
            refine z_is1 eX12_twins_70 (Nat.ne_of_beq_eq_false rfl) ?_
            refine z_ii3 eX12_twins_71 (Nat.ne_of_beq_eq_false rfl) ?_
            refine z_goto eX12_twins_74 (tgt := 23) rfl ?_
            rw [show a + 1 + j + 1 = a + 1 + (j + 1) by omega]; first | (have e3 := h61; first | (rw [zbi_t ⟨h46, e3⟩] at ih2; exact ih2) | (rw [zbi_f (fun z => e3 z.2)] at ih2; exact ih2)) | (rw [zbi_f (fun z => h46 z.1)] at ih2; exact ih2) | fail
          · refine z_al0 eX12_twins_49 hR.ne ?_
            refine z_il2 eX12_twins_50 ?_
            refine z_iconst eX12_twins_51 ?_
            refine z_V2 eX12_twins_52 vX12_62 rfl rfl (Nat.le_of_ble_eq_true rfl) (Nat.le_of_ble_eq_true rfl) hR.x (m_X12_of hR ⟨by omega, by omega⟩ (by decide)) ?_
            try rw [hS1]
            refine z_al0 eX12_twins_55 hR.ne ?_
            refine z_il3 eX12_twins_56 ?_
            refine z_iconst eX12_twins_57 ?_
            refine z_V2 eX12_twins_58 vX12_62 rfl rfl (Nat.le_of_ble_eq_true rfl) (Nat.le_of_ble_eq_true rfl) hR.x (m_X12_of hR ⟨by omega, by omega⟩ (by decide)) ?_
            try rw [hS1]
            refine z_icmp_ne (tgt := 68) eX12_twins_61 rfl ⟨⟨by omega, by omega⟩, ⟨by omega, by omega⟩⟩ (fun h61 => ?_) (fun h61 => ?_)
            · refine z_iconst eX12_twins_68 ?_
              refine z_iadd eX12_twins_69 ?_
              refine z_is1 eX12_twins_70 (Nat.ne_of_beq_eq_false rfl) ?_
              refine z_ii3 eX12_twins_71 (Nat.ne_of_beq_eq_false rfl) ?_
              refine z_goto eX12_twins_74 (tgt := 23) rfl ?_
              rw [show a + 1 + j + 1 = a + 1 + (j + 1) by omega]; first | (have e3 := h61; first | (rw [zbi_t ⟨h46, e3⟩] at ih2; exact ih2) | (rw [zbi_f (fun z => e3 z.2)] at ih2; exact ih2)) | (rw [zbi_f (fun z => h46 z.1)] at ih2; exact ih2) | fail
            · refine z_iconst eX12_twins_64 ?_
              refine z_goto eX12_twins_65 (tgt := 69) rfl ?_
              refine z_iadd eX12_twins_69 ?_
              refine z_is1 eX12_twins_70 (Nat.ne_of_beq_eq_false rfl) ?_
              refine z_ii3 eX12_twins_71 (Nat.ne_of_beq_eq_false rfl) ?_
              refine z_goto eX12_twins_74 (tgt := 23) rfl ?_
              rw [show a + 1 + j + 1 = a + 1 + (j + 1) by omega]; first | (have e3 := h61; first | (rw [zbi_t ⟨h46, e3⟩] at ih2; exact ih2) | (rw [zbi_f (fun z => e3 z.2)] at ih2; exact ih2)) | (rw [zbi_f (fun z => h46 z.1)] at ih2; exact ih2) | fail
      have h0 := w23 0 (by decide) (by omega)
      rw [show qTwinI (σ 1) a 0 = 0 from rfl, Int.add_zero, Int.add_zero] at h0
      refine z_il2 eX12_twins_9 ?_
      refine z_al0 eX12_twins_10 hR.ne ?_
      refine z_ra lX12_7 eX12_twins_11 rfl hR rfl ?_
      try rw [hS1]
      refine z_iconst eX12_twins_14 ?_
      refine z_rl eX12_twins_15 hR (by decide) rfl rfl ⟨by omega, by omega⟩ ?_
      try rw [hS1]
      refine z_icmp_ge (tgt := 83) eX12_twins_16 rfl ⟨⟨by omega, by omega⟩, ⟨by omega, by omega⟩⟩ (fun h16 => (by exfalso; omega)) (fun h16 => ?_)
      refine z_il2 eX12_twins_19 ?_
      refine z_iconst eX12_twins_20 ?_
      refine z_iadd eX12_twins_21 ?_
      refine z_is3 eX12_twins_22 (Nat.ne_of_beq_eq_false rfl) ?_
      exact h0
  refine z_al0 eX12_twins_0 hR.ne ?_
  refine z_iconst eX12_twins_1 ?_
  refine z_rp (j := 0) lX12_48 eX12_twins_2 rfl hR rfl rfl ?_
  rw [hS]
  refine z_iconst eX12_twins_5 ?_
  refine z_is1 eX12_twins_6 (Nat.ne_of_beq_eq_false rfl) ?_
  refine z_iconst eX12_twins_7 ?_
  refine z_is2 eX12_twins_8 (Nat.ne_of_beq_eq_false rfl) ?_
  exact w9 0 (by decide) hm3.1 _
def qRich (M : Int → Int) (n : Int) : Int := zfold (fun k r => if M (74 + 5 * k + 4) = 0 ∧ (r = -1 ∨ M (74 + 5 * r + 2) < M (74 + 5 * k + 2)) then k else r) (-1) n
theorem qRich_bd (M : Int → Int) {n : Int} (hn : 0 ≤ n) : qRich M n = -1 ∨ 0 ≤ qRich M n ∧ qRich M n < n := by
  unfold qRich
  exact zfold_P (f := fun k r => if M (74 + 5 * k + 4) = 0 ∧ (r = -1 ∨ M (74 + 5 * r + 2) < M (74 + 5 * k + 2)) then k else r) (P := fun n (r : Int) => r = -1 ∨ 0 ≤ r ∧ r < n) (s := -1) (Or.inl rfl) (fun t r ht h => by split <;> omega) n hn
theorem m_X12_richest {G : zG} {lay : zLay} {σ C0 : zMem} {nx x : Int} (hR : RefL lay x) (hM : zOK (σ 1)) : zMM G 3 KX12_richest [zP x] lay (rC x σ C0) nx (0, 0) (zR (some (zI (qRich (σ 1) (σ 1 4)))) lay (rC x (zset σ 0 0 0) C0) nx) := by
  refine z_met' (L := [zP x, zU, zU]) gX12_richest.1 rfl rfl (Nat.le_of_ble_eq_true rfl) rfl ?_
  generalize hS : zset σ 0 0 0 = S
  have hS1 : S 1 = σ 1 := by rw [← hS]; exact zset_001
  have hm4 := hM.1.m4
  have hl : ∀ k : Int, 0 ≤ k → k ≤ σ 1 4 → zW G KX12_richest 3 (zR (some (zI (qRich (σ 1) (σ 1 4)))) lay (rC x S C0) nx) 9 [zP x, zI (qRich (σ 1) k), zI k] [] lay (rC x S C0) nx (0, 0) := by
    refine z_up (σ 1 4) ?_ ?_
    · skip
      refine z_il2 eX12_richest_9 ?_
      refine z_al0 eX12_richest_10 hR.ne ?_
      refine z_ra lX12_7 eX12_richest_11 rfl hR rfl ?_
      try rw [hS1]
      refine z_iconst eX12_richest_14 ?_
      refine z_rl eX12_richest_15 hR (by decide) rfl rfl ⟨by omega, by omega⟩ ?_
      try rw [hS1]
      refine z_icmp_ge (tgt := 55) eX12_richest_16 rfl ⟨⟨by omega, by omega⟩, ⟨by omega, by omega⟩⟩ (fun h16 => ?_) (fun h16 => (by exfalso; omega))
      refine z_il1 eX12_richest_55 ?_
      refine z_ireturn eX12_richest_56 rfl ?_
      first | exact ⟨rfl, rfl, rfl, rfl⟩ | exact zRb1 (by omega) | exact zRb0 (by omega) | exact zRe (by omega)
    · intro k k0 k1 ih
      have hV := hM.1.V (k := k) ⟨k0, by omega⟩
      have hr := qRich_bd (σ 1) k0
      have e : qRich (σ 1) (k + 1) = if σ 1 (74 + 5 * k + 4) = 0 ∧ (qRich (σ 1) k = -1 ∨ σ 1 (74 + 5 * qRich (σ 1) k + 2) < σ 1 (74 + 5 * k + 2)) then k else qRich (σ 1) k := by unfold qRich; rw [zfold_s _ _ k0]
      rw [e] at ih
      generalize qRich (σ 1) k = r at ih hr ⊢
      have hV2 : r ≠ -1 → _ := fun z => hM.1.V (k := r) ⟨by omega, by omega⟩
      refine z_il2 eX12_richest_9 ?_
      refine z_al0 eX12_richest_10 hR.ne ?_
      refine z_ra lX12_7 eX12_richest_11 rfl hR rfl ?_
      try rw [hS1]
      refine z_iconst eX12_richest_14 ?_
      refine z_rl eX12_richest_15 hR (by decide) rfl rfl ⟨by omega, by omega⟩ ?_
      try rw [hS1]
      refine z_icmp_ge (tgt := 55) eX12_richest_16 rfl ⟨⟨by omega, by omega⟩, ⟨by omega, by omega⟩⟩ (fun h16 => (by exfalso; omega)) (fun h16 => ?_)
      refine z_al0 eX12_richest_19 hR.ne ?_
      refine z_il2 eX12_richest_20 ?_
      refine z_V1 eX12_richest_21 vX12_308 rfl rfl (Nat.le_of_ble_eq_true rfl) (Nat.le_of_ble_eq_true rfl) hR.x (m_X12_waits hR ⟨by omega, by omega⟩ (by rw [hS1]; exact ⟨by omega, by omega⟩)) ?_
      try rw [hS1]
      refine z_ifb_eq (tgt := 49) eX12_richest_24 rfl (fun h24 => ?_) (fun h24 => ?_)
      · refine z_ii2 eX12_richest_49 (Nat.ne_of_beq_eq_false rfl) ?_
        refine z_goto eX12_richest_52 (tgt := 9) rfl ?_
        first | (rw [if_pos (by omega)] at ih; exact ih) | (rw [if_neg (by omega)] at ih; exact ih) | fail
      · refine z_il1 eX12_richest_27 ?_
        refine z_iconst eX12_richest_28 ?_
        refine z_icmp_eq (tgt := 47) eX12_richest_29 rfl ⟨⟨by omega, by omega⟩, ⟨by omega, by omega⟩⟩ (fun h29 => ?_) (fun h29 => ?_)
        · refine z_il2 eX12_richest_47 ?_
          refine z_is1 eX12_richest_48 (Nat.ne_of_beq_eq_false rfl) ?_
          refine z_ii2 eX12_richest_49 (Nat.ne_of_beq_eq_false rfl) ?_
          refine z_goto eX12_richest_52 (tgt := 9) rfl ?_
          first | (rw [if_pos (by omega)] at ih; exact ih) | (rw [if_neg (by omega)] at ih; exact ih) | fail
        · have hv2 := hV2 h29
          refine z_al0 eX12_richest_32 hR.ne ?_
          refine z_il2 eX12_richest_33 ?_
          refine z_iconst eX12_richest_34 ?_
          refine z_V2 eX12_richest_35 vX12_55 rfl rfl (Nat.le_of_ble_eq_true rfl) (Nat.le_of_ble_eq_true rfl) hR.x (m_X12_ofMotion hR ⟨by omega, by omega⟩ (by decide)) ?_
          try rw [hS1]
          refine z_al0 eX12_richest_38 hR.ne ?_
          refine z_il1 eX12_richest_39 ?_
          refine z_iconst eX12_richest_40 ?_
          refine z_V2 eX12_richest_41 vX12_55 rfl rfl (Nat.le_of_ble_eq_true rfl) (Nat.le_of_ble_eq_true rfl) hR.x (m_X12_ofMotion hR ⟨by omega, by omega⟩ (by decide)) ?_
          try rw [hS1]
          refine z_icmp_le (tgt := 49) eX12_richest_44 rfl ⟨⟨by omega, by omega⟩, ⟨by omega, by omega⟩⟩ (fun h44 => ?_) (fun h44 => ?_)
          · refine z_ii2 eX12_richest_49 (Nat.ne_of_beq_eq_false rfl) ?_
            refine z_goto eX12_richest_52 (tgt := 9) rfl ?_
            first | (rw [if_pos (by omega)] at ih; exact ih) | (rw [if_neg (by omega)] at ih; exact ih) | fail
          · refine z_il2 eX12_richest_47 ?_
            refine z_is1 eX12_richest_48 (Nat.ne_of_beq_eq_false rfl) ?_
            refine z_ii2 eX12_richest_49 (Nat.ne_of_beq_eq_false rfl) ?_
            refine z_goto eX12_richest_52 (tgt := 9) rfl ?_
            first | (rw [if_pos (by omega)] at ih; exact ih) | (rw [if_neg (by omega)] at ih; exact ih) | fail
  refine z_al0 eX12_richest_0 hR.ne ?_
  refine z_iconst eX12_richest_1 ?_
  refine z_rp (j := 0) lX12_48 eX12_richest_2 rfl hR rfl rfl ?_
  rw [hS]
  refine z_iconst eX12_richest_5 ?_
  refine z_is1 eX12_richest_6 (Nat.ne_of_beq_eq_false rfl) ?_
  refine z_iconst eX12_richest_7 ?_
  refine z_is2 eX12_richest_8 (Nat.ne_of_beq_eq_false rfl) ?_
  exact hl 0 (by decide) hm4.1
