/-! Some hours ago; whom to ask. -/
noncomputable def qAgo (σ : zMem) (n : Int) : Int := if zsum (qWays σ (-1)) 5 = 0 then -1 else if zsum (qWays σ n) 5 = zsum (qWays σ (-1)) 5 then 1 else if zsum (qWays σ n) 5 = 0 then 0 else -1
theorem qHrd_1 {σ : zMem} {v o : Int} (h : o ≠ 0) : qHrd σ v o = σ o := by unfold qHrd; rw [zset_o h, zset_o h]
theorem qHrd_J {σ : zMem} (h : zJs σ) (v : Int) : zJs (qHrd σ v) := (h.set (by decide) (fun _ => by unfold zNs; omega)).set (by decide) (fun _ => Or.inl rfl)
theorem m_X12_ago {G : zG} {lay : zLay} {σ C0 : zMem} {nx x : Int} {n : Int} (hR : RefL lay x) (hS : TxS lay C0) (hJ : zJs σ) (hM : zOL (σ 1)) (hT : zTape σ) (hn : zin n) : zMM G 70 KX12_ago [zP x, zI n] lay (rC x σ C0) nx (0, 0) (zX' (some (zI (zif (qCuffs (σ 5) (σ 1) (σ 0 8) ∧ 0 ≤ n ∧ n ≤ 11) (qAgo σ n) 0))) (zScx (qHrd σ (qThr1 (qCuffs (σ 5) (σ 1) (σ 0 8) ∧ 0 ≤ n ∧ n ≤ 11)))) lay C0 nx x) := by
  refine z_met' (L := [zP x, zI n, zU, zU, zU, zU, zU]) gX12_ago.1 rfl rfl (Nat.le_of_ble_eq_true rfl) rfl ?_
  obtain ⟨n1, n2⟩ := hn
  have h8 := hT.1
  have hm3 := hM.1.1.m3
  have e1 : ∀ o, o ≠ 0 → zset σ 0 8 0 o = σ o := fun o ho => zset_o ho
  have hT2 : ∀ v, ∀ k, 0 ≤ k → k < 400 → 0 ≤ qHrd σ v 5 k ∧ qHrd σ v 5 k ≤ 255 := fun v => by rw [qHrd_1 (by decide)]; exact hT.2
  have ha := m_X12_areCuffs (G := G) (C0 := C0) (nx := nx) (σ := zset σ 0 8 0) (n := σ 0 8) hR ⟨by omega, by omega⟩ (by rw [e1 5 (by decide)]; exact hT.2) (by rw [e1 1 (by decide)]; exact hm3)
  rw [e1 5 (by decide), e1 1 (by decide)] at ha
  have hr : ∀ (S : zMem) (c : Int), zScx (qHrd σ 0) S → qCuffs (σ 5) (σ 1) (σ 0 8) → -1 ≤ c ∧ c < 12 → _ := fun S c hSc hC hc => m_X12_rows (G := G) (nx := nx) (n := σ 0 8) (c := c) hR hS hSc.2.2 (by rw [hSc.r1, qHrd_1 (by decide)]; exact hM) (by rw [hSc.r5]; exact hT2 0) (by omega) (by rw [hSc.r5, hSc.r1, qHrd_1 (by decide), qHrd_1 (by decide)]; exact hC) hc
  have hz : zin8 0 := by decide
  have hsb : ∀ c, zin8 (zsum (qWays σ c) 5) := fun c => by
    have := zsum_bnd (f := qWays σ c) (c := 48828125) (n := 5) (by decide) (fun t _ _ => qWays_bd σ c t)
    exact ⟨by omega, by omega⟩
  by_cases hok : qCuffs (σ 5) (σ 1) (σ 0 8) ∧ 0 ≤ n ∧ n ≤ 11
  · rw [zif_t hok, qThr1_t hok]
    obtain ⟨hC, hn0⟩ := hok
    have hr1 := hr (qHrd σ 0) (-1) (zScx.refl (qHrd_J hJ 0)) hC ⟨by decide, by decide⟩
    unfold qAgo
    refine z_al0 eX12_ago_0 hR.ne ?_
    refine z_rg (j := 8) lX12_65 eX12_ago_1 rfl hR rfl rfl ?_
    refine z_is2 eX12_ago_4 (Nat.ne_of_beq_eq_false rfl) ?_
    refine z_al0 eX12_ago_5 hR.ne ?_
    refine z_iconst eX12_ago_6 ?_
    refine z_rp (j := 8) lX12_65 eX12_ago_7 rfl hR rfl rfl ?_
    refine z_al0 eX12_ago_10 hR.ne ?_
    refine z_al0 eX12_ago_11 hR.ne ?_
    refine z_il2 eX12_ago_12 ?_
    refine z_V1 eX12_ago_13 vX12_382 rfl rfl (Nat.le_of_ble_eq_true rfl) (Nat.le_of_ble_eq_true rfl) hR.x (ha ) ?_
    refine z_ifb_eq (tgt := 29) eX12_ago_16 rfl (fun h16 => absurd hC h16) (fun h16 => ?_)
    refine z_il1 eX12_ago_19 ?_
    refine z_iconst eX12_ago_20 ?_
    refine z_bipush eX12_ago_21 (by decide) ?_
    refine z_S3 eX12_ago_23 vX12_51 rfl rfl (Nat.le_of_ble_eq_true rfl) (Nat.le_of_ble_eq_true rfl) (m_X12_isIn (by refine ⟨?_, ?_, ?_⟩ <;> first | omega | decide | assumption)) ?_
    refine z_ifb_ne (tgt := 33) eX12_ago_26 rfl (fun h26 => ?_) (fun h26 => absurd hn0 h26)
    refine z_iconst eX12_ago_33 ?_
    refine z_rp (j := 0) lX12_48 eX12_ago_34 rfl hR rfl rfl ?_
    refine z_al0 eX12_ago_37 hR.ne ?_
    refine z_rg (j := 0) lX12_48 eX12_ago_38 rfl hR rfl rfl ?_
    rw [zset_eq]
    refine z_if_le (tgt := 46) eX12_ago_41 rfl ⟨by omega, by omega⟩ (fun h41 => ?_) (fun h41 => (by exfalso; omega))
    refine z_al0 eX12_ago_46 hR.ne ?_
    refine z_il2 eX12_ago_47 ?_
    refine z_iconst eX12_ago_48 ?_
    refine z_V2vx eX12_ago_49 vX12_385 rfl rfl (Nat.le_of_ble_eq_true rfl) (Nat.le_of_ble_eq_true rfl) hR.x (hr1 ) (fun s49 hs49 => ?_)
    obtain ⟨hs49, g49⟩ := hs49
    have q49 : ∀ t, 0 ≤ t → t < 5 → s49 9 t = qWays σ (-1) t := (fun t t0 t1 => by rw [g49 t t0 t1, qHrd_1 (by decide), qHrd_1 (by decide)]; rfl)
    refine z_al0 eX12_ago_52 hR.ne ?_
    refine z_V0 eX12_ago_53 vX12_395 rfl rfl (Nat.le_of_ble_eq_true rfl) (Nat.le_of_ble_eq_true rfl) hR.x (m_X12_waysOfAll hR) ?_
    try rw [hs49.r1]
    rw [zsum_congr (f := fun t => s49 9 t) (g := qWays σ (-1)) (n := 5) q49]
    refine z_ls3 eX12_ago_56 (Nat.ne_of_beq_eq_false rfl) ?_
    refine z_al0 eX12_ago_57 hR.ne ?_
    refine z_il2 eX12_ago_58 ?_
    refine z_il1 eX12_ago_59 ?_
    refine z_V2vx eX12_ago_60 vX12_385 rfl rfl (Nat.le_of_ble_eq_true rfl) (Nat.le_of_ble_eq_true rfl) hR.x (hr s49 n hs49 hC ⟨by omega, by omega⟩ ) (fun s60 hs60 => ?_)
    obtain ⟨hs60, g60⟩ := hs60
    have q60 : ∀ t, 0 ≤ t → t < 5 → s60 9 t = qWays σ n t := (fun t t0 t1 => by rw [g60 t t0 t1, hs49.r5, hs49.r1, qHrd_1 (by decide), qHrd_1 (by decide)]; rfl)
    replace hs60 := hs49.trans hs60
    try rw [hs49.r1]
    refine z_al0 eX12_ago_63 hR.ne ?_
    refine z_V0 eX12_ago_64 vX12_395 rfl rfl (Nat.le_of_ble_eq_true rfl) (Nat.le_of_ble_eq_true rfl) hR.x (m_X12_waysOfAll hR) ?_
    try rw [hs60.r1]
    rw [zsum_congr (f := fun t => s60 9 t) (g := qWays σ n) (n := 5) q60]
    refine z_ls5 eX12_ago_67 (Nat.ne_of_beq_eq_false rfl) ?_
    refine z_ll3 eX12_ago_69 ?_
    refine z_lconst0 eX12_ago_70 ?_
    refine z_lcmp eX12_ago_71 ⟨hsb _, hz⟩ ?_
    refine z_if_ne (tgt := 77) eX12_ago_72 rfl (zcmp_in _ _) (fun h72 => ?_) (fun h72 => ?_)
    · refine z_ll5 eX12_ago_77 ?_
      refine z_ll3 eX12_ago_79 ?_
      refine z_lcmp eX12_ago_80 ⟨hsb _, hsb _⟩ ?_
      refine z_if_ne (tgt := 88) eX12_ago_81 rfl (zcmp_in _ _) (fun h81 => ?_) (fun h81 => ?_)
      · refine z_ll5 eX12_ago_88 ?_
        refine z_lconst0 eX12_ago_90 ?_
        refine z_lcmp eX12_ago_91 ⟨hsb _, hz⟩ ?_
        refine z_if_ne (tgt := 99) eX12_ago_92 rfl (zcmp_in _ _) (fun h92 => ?_) (fun h92 => ?_)
        · refine z_iconst eX12_ago_99 ?_
          refine z_ireturn eX12_ago_100 rfl ?_
          rw [if_neg (fun z => h72 (zcmp_eq.mpr z))]; first | (rw [if_pos (zcmp_eq.mp h81)]; exact zXe hs60 rfl) | (rw [if_neg (fun z => h81 (zcmp_eq.mpr z))]; first | (rw [if_pos (zcmp_eq.mp h92)]; exact zXe hs60 rfl) | (rw [if_neg (fun z => h92 (zcmp_eq.mpr z))]; exact zXe hs60 rfl))
        · refine z_iconst eX12_ago_95 ?_
          refine z_goto eX12_ago_96 (tgt := 100) rfl ?_
          refine z_ireturn eX12_ago_100 rfl ?_
          rw [if_neg (fun z => h72 (zcmp_eq.mpr z))]; first | (rw [if_pos (zcmp_eq.mp h81)]; exact zXe hs60 rfl) | (rw [if_neg (fun z => h81 (zcmp_eq.mpr z))]; first | (rw [if_pos (zcmp_eq.mp h92)]; exact zXe hs60 rfl) | (rw [if_neg (fun z => h92 (zcmp_eq.mpr z))]; exact zXe hs60 rfl))
      · refine z_iconst eX12_ago_84 ?_
        refine z_goto eX12_ago_85 (tgt := 100) rfl ?_
        refine z_ireturn eX12_ago_100 rfl ?_
        rw [if_neg (fun z => h72 (zcmp_eq.mpr z))]; first | (rw [if_pos (zcmp_eq.mp h81)]; exact zXe hs60 rfl) | (rw [if_neg (fun z => h81 (zcmp_eq.mpr z))]; first | (rw [if_pos (zcmp_eq.mp h92)]; exact zXe hs60 rfl) | (rw [if_neg (fun z => h92 (zcmp_eq.mpr z))]; exact zXe hs60 rfl))
    · refine z_iconst eX12_ago_75 ?_
      refine z_ireturn eX12_ago_76 rfl ?_
      rw [if_pos (zcmp_eq.mp h72)]; exact zXe hs60 rfl
  · rw [zif_f hok, qThr1_f hok]
    refine z_al0 eX12_ago_0 hR.ne ?_
    refine z_rg (j := 8) lX12_65 eX12_ago_1 rfl hR rfl rfl ?_
    refine z_is2 eX12_ago_4 (Nat.ne_of_beq_eq_false rfl) ?_
    refine z_al0 eX12_ago_5 hR.ne ?_
    refine z_iconst eX12_ago_6 ?_
    refine z_rp (j := 8) lX12_65 eX12_ago_7 rfl hR rfl rfl ?_
    refine z_al0 eX12_ago_10 hR.ne ?_
    refine z_al0 eX12_ago_11 hR.ne ?_
    refine z_il2 eX12_ago_12 ?_
    refine z_V1 eX12_ago_13 vX12_382 rfl rfl (Nat.le_of_ble_eq_true rfl) (Nat.le_of_ble_eq_true rfl) hR.x (ha ) ?_
    refine z_ifb_eq (tgt := 29) eX12_ago_16 rfl (fun h16 => ?_) (fun h16 => ?_)
    · refine z_iconst eX12_ago_29 ?_
      refine z_goto eX12_ago_30 (tgt := 34) rfl ?_
      refine z_rp (j := 0) lX12_48 eX12_ago_34 rfl hR rfl rfl ?_
      refine z_al0 eX12_ago_37 hR.ne ?_
      refine z_rg (j := 0) lX12_48 eX12_ago_38 rfl hR rfl rfl ?_
      rw [zset_eq]
      refine z_if_le (tgt := 46) eX12_ago_41 rfl ⟨by omega, by omega⟩ (fun h41 => (by exfalso; omega)) (fun h41 => ?_)
      refine z_iconst eX12_ago_44 ?_
      refine z_ireturn eX12_ago_45 rfl ?_
      exact zXe (zScx.refl (qHrd_J hJ 1)) rfl
    · refine z_il1 eX12_ago_19 ?_
      refine z_iconst eX12_ago_20 ?_
      refine z_bipush eX12_ago_21 (by decide) ?_
      refine z_S3 eX12_ago_23 vX12_51 rfl rfl (Nat.le_of_ble_eq_true rfl) (Nat.le_of_ble_eq_true rfl) (m_X12_isIn (by refine ⟨?_, ?_, ?_⟩ <;> first | omega | decide | assumption)) ?_
      refine z_ifb_ne (tgt := 33) eX12_ago_26 rfl (fun h26 => absurd ⟨h16, h26⟩ hok) (fun h26 => ?_)
      refine z_iconst eX12_ago_29 ?_
      refine z_goto eX12_ago_30 (tgt := 34) rfl ?_
      refine z_rp (j := 0) lX12_48 eX12_ago_34 rfl hR rfl rfl ?_
      refine z_al0 eX12_ago_37 hR.ne ?_
      refine z_rg (j := 0) lX12_48 eX12_ago_38 rfl hR rfl rfl ?_
      rw [zset_eq]
      refine z_if_le (tgt := 46) eX12_ago_41 rfl ⟨by omega, by omega⟩ (fun h41 => (by exfalso; omega)) (fun h41 => ?_)
      refine z_iconst eX12_ago_44 ?_
      refine z_ireturn eX12_ago_45 rfl ?_
      exact zXe (zScx.refl (qHrd_J hJ 1)) rfl
/-- in how many of a set of skies a member would be wet -/
noncomputable def qWetIn (M : Int → Int) (set p n : Int) : Int := zsum (fun t => zbi (zbit set t = 1 ∧ 0 < qFelt M p t (-1) (M 6))) n
noncomputable def qMore (M : Int → Int) (set p : Int) : Int := qGr (qWetIn M set p 5) (qbits set - qWetIn M set p 5)
noncomputable def qAskV (M : Int → Int) (set : Int) : Int := if 1 < qbits set then (qMin (qMore M set) (-1) 2000000000 (M 3)).1 else -1
theorem qWetIn_bd (M : Int → Int) (set p : Int) {n : Int} (hn : 0 ≤ n ∧ n ≤ 5) : 0 ≤ qWetIn M set p n ∧ qWetIn M set p n ≤ 5 := by
  have := zsum_bnd (f := fun t => zbi (zbit set t = 1 ∧ 0 < qFelt M p t (-1) (M 6))) (c := 1) hn.1 (fun t _ _ => by have := zbi_01 (zbit set t = 1 ∧ 0 < qFelt M p t (-1) (M 6)); omega)
  unfold qWetIn
  omega
theorem m_X12_ask {G : zG} {lay : zLay} {σ C0 : zMem} {nx x : Int} (hR : RefL lay x) (hS : TxS lay C0) (hJ : zJs σ) (hM : zOL (σ 1)) (hT : zTape σ) : zMM G 71 KX12_ask [zP x] lay (rC x σ C0) nx (0, 0) (zX' (some (zI (zif (qCuffs (σ 5) (σ 1) (σ 0 8)) (qAskV (σ 1) (qSkies (qWays σ (-1)))) 0))) (zScx (qHrd σ (qThr1 (qCuffs (σ 5) (σ 1) (σ 0 8))))) lay C0 nx x) := by
  refine z_met' (L := [zP x, zU, zU, zU, zU, zU, zU]) gX12_ask.1 rfl rfl (Nat.le_of_ble_eq_true rfl) rfl ?_
  have hm3 := hM.1.1.m3
  by_cases hC : qCuffs (σ 5) (σ 1) (σ 0 8)
  · rw [zif_t hC, qThr1_t hC]
    have hwb := qWays_bd σ (-1)
    generalize hset : qSkies (qWays σ (-1)) = set
    have hb := qbits_bd set
    have w39 : ∀ p : Int, 0 ≤ p → p ≤ σ 1 3 → ∀ (S : zMem) (y5 y6 : zAV), y5.1 ≠ 1 → zScx (qHrd σ 0) S → (1 < qbits set ∨ p = 0) → zW G KX12_ask 71 (zX' (some (zI (qAskV (σ 1) set))) (zScx (qHrd σ 0)) lay C0 nx x) 39 [zP x, zI set, zI (qMin (qMore (σ 1) set) (-1) 2000000000 p).1, zI (qMin (qMore (σ 1) set) (-1) 2000000000 p).2, zI p, y5, y6] [] lay (rC x S C0) nx (0, 0) := by
      refine z_up (σ 1 3) ?_ ?_
      · intro S y5 y6 hy hSc hor
        have hS1 : S 1 = σ 1 := by rw [hSc.r1, qHrd_1 (by decide)]
        unfold qAskV
        refine z_il4 eX12_ask_39 ?_
        refine z_al0 eX12_ask_41 hR.ne ?_
        refine z_ra lX12_7 eX12_ask_42 rfl hR rfl ?_
        try rw [hS1]
        refine z_iconst eX12_ask_45 ?_
        refine z_rl eX12_ask_46 hR (by decide) rfl rfl ⟨by omega, by omega⟩ ?_
        try rw [hS1]
        refine z_icmp_ge (tgt := 141) eX12_ask_47 rfl ⟨⟨by omega, by omega⟩, ⟨by omega, by omega⟩⟩ (fun h47 => ?_) (fun h47 => (by exfalso; omega))
        refine z_il2 eX12_ask_141 ?_
        refine z_ireturn eX12_ask_142 rfl ?_
        first | (rcases hor with h | h; rw [if_pos h]; exact zXe hSc rfl; rw [h]; split; exact zXe hSc rfl; exact zXe hSc rfl)
      · intro p p0 p1 ih S y5 y6 hy hSc hor
        have hS1 : S 1 = σ 1 := by rw [hSc.r1, qHrd_1 (by decide)]
        by_cases h1 : 1 < qbits set
        · have hq := qMin_bd (f := qMore (σ 1) set) (f0 := -1) (m0 := 2000000000) (c := 0) (by decide) p p0 (fun j _ _ => by
            have := qWetIn_bd (σ 1) set j (n := 5) ⟨by decide, by decide⟩
            unfold qMore qGr
            split <;> omega)
          have hwi := qWetIn_bd (σ 1) set p (n := 5) ⟨by decide, by decide⟩
          rw [qMin_s _ _ _ p0] at ih
          generalize qMin (qMore (σ 1) set) (-1) 2000000000 p = r at ih hq ⊢
          have w64 : ∀ t : Int, 0 ≤ t → t ≤ 5 → ∀ S : zMem, zScx (qHrd σ 0) S → zW G KX12_ask 71 (zX' (some (zI (qAskV (σ 1) set))) (zScx (qHrd σ 0)) lay C0 nx x) 64 [zP x, zI set, zI r.1, zI r.2, zI p, zI (qWetIn (σ 1) set p t), zI t] [] lay (rC x S C0) nx (0, 0) := by
            refine z_up 5 ?_ ?_
            · intro S hSc
              have hmo : qMore (σ 1) set p = qGr (qWetIn (σ 1) set p 5) (qbits set - qWetIn (σ 1) set p 5) := rfl
              have hgb : 0 ≤ qMore (σ 1) set p ∧ qMore (σ 1) set p ≤ 31 := by rw [hmo]; unfold qGr; split <;> omega
              refine z_il6 eX12_ask_64 ?_
              refine z_iconst eX12_ask_66 ?_
              refine z_icmp_ge (tgt := 106) eX12_ask_67 rfl ⟨⟨by omega, by omega⟩, ⟨by omega, by omega⟩⟩ (fun h67 => ?_) (fun h67 => (by exfalso; omega))
              refine z_il5 eX12_ask_106 ?_
              refine z_il1 eX12_ask_108 ?_
              refine z_S1 eX12_ask_109 vX12_283 rfl rfl (Nat.le_of_ble_eq_true rfl) (Nat.le_of_ble_eq_true rfl) (m_X12_bits ) ?_
              refine z_il5 eX12_ask_112 ?_
              refine z_isub eX12_ask_114 ?_
              refine z_S2 eX12_ask_115 vX12_274 rfl rfl (Nat.le_of_ble_eq_true rfl) (Nat.le_of_ble_eq_true rfl) (m_X12_greater ⟨⟨by omega, by omega⟩, ⟨by omega, by omega⟩⟩) ?_
              change zW _ _ _ _ _ _ (zI (qMore (σ 1) set p) :: _) _ _ _ _
              refine z_is6 eX12_ask_118 (Nat.ne_of_beq_eq_false rfl) ?_
              refine z_il6 eX12_ask_120 ?_
              refine z_il3 eX12_ask_122 ?_
              refine z_icmp_lt (tgt := 129) eX12_ask_123 rfl ⟨⟨by omega, by omega⟩, ⟨by omega, by omega⟩⟩ (fun h123 => ?_) (fun h123 => ?_)
              · refine z_il6 eX12_ask_129 ?_
                refine z_is3 eX12_ask_131 (Nat.ne_of_beq_eq_false rfl) ?_
                refine z_il4 eX12_ask_132 ?_
                refine z_is2 eX12_ask_134 (Nat.ne_of_beq_eq_false rfl) ?_
                refine z_ii4 eX12_ask_135 (Nat.ne_of_beq_eq_false rfl) ?_
                refine z_goto eX12_ask_138 (tgt := 39) rfl ?_
                first | (rw [if_pos (by omega)] at ih; exact ih S _ _ (Nat.ne_of_beq_eq_false rfl) hSc (Or.inl h1)) | (rw [if_neg (by omega)] at ih; exact ih S _ _ (Nat.ne_of_beq_eq_false rfl) hSc (Or.inl h1)) | fail
              · refine z_goto eX12_ask_126 (tgt := 135) rfl ?_
                refine z_ii4 eX12_ask_135 (Nat.ne_of_beq_eq_false rfl) ?_
                refine z_goto eX12_ask_138 (tgt := 39) rfl ?_
                first | (rw [if_pos (by omega)] at ih; exact ih S _ _ (Nat.ne_of_beq_eq_false rfl) hSc (Or.inl h1)) | (rw [if_neg (by omega)] at ih; exact ih S _ _ (Nat.ne_of_beq_eq_false rfl) hSc (Or.inl h1)) | fail
            · intro t t0 t1 ih2 S hSc
              have hS1 : S 1 = σ 1 := by rw [hSc.r1, qHrd_1 (by decide)]
              have e : qWetIn (σ 1) set p (t + 1) = qWetIn (σ 1) set p t + zbi (zbit set t = 1 ∧ 0 < qFelt (σ 1) p t (-1) (σ 1 6)) := zsum_s _ t0
              rw [e] at ih2
              refine z_il6 eX12_ask_64 ?_
              refine z_iconst eX12_ask_66 ?_
              refine z_icmp_ge (tgt := 106) eX12_ask_67 rfl ⟨⟨by omega, by omega⟩, ⟨by omega, by omega⟩⟩ (fun h67 => (by exfalso; omega)) (fun h67 => ?_)
              refine z_il5 eX12_ask_70 ?_
              refine z_il1 eX12_ask_72 ?_
              refine z_il6 eX12_ask_73 ?_
              refine z_S2 eX12_ask_75 vX12_290 rfl rfl (Nat.le_of_ble_eq_true rfl) (Nat.le_of_ble_eq_true rfl) (m_X12_isOf ) ?_
              refine z_ifb_eq (tgt := 96) eX12_ask_78 rfl (fun h78 => ?_) (fun h78 => ?_)
              · refine z_iconst eX12_ask_96 ?_
                refine z_iadd eX12_ask_97 ?_
                refine z_is5 eX12_ask_98 (Nat.ne_of_beq_eq_false rfl) ?_
                refine z_ii6 eX12_ask_100 (Nat.ne_of_beq_eq_false rfl) ?_
                refine z_goto eX12_ask_103 (tgt := 64) rfl ?_
                first | (have e2 := h89; rw [zbi_t ⟨h78, e2⟩] at ih2; exact ih2 s86 (hSc.trans hs86.x)) | (have e2 := h89; rw [zbi_f (fun z => e2 z.2)] at ih2; exact ih2 s86 (hSc.trans hs86.x)) | (rw [zbi_f (fun z => h78 z.1)] at ih2; exact ih2 S hSc) | fail
              · refine z_al0 eX12_ask_81 hR.ne ?_
                refine z_il4 eX12_ask_82 ?_
                refine z_il6 eX12_ask_84 ?_
                refine z_V2x eX12_ask_86 vX12_376 rfl rfl (Nat.le_of_ble_eq_true rfl) (Nat.le_of_ble_eq_true rfl) hR.x (m_X12_isWet hR hS hSc.2.2 (by rw [hS1]; exact hM) ⟨by omega, by omega⟩ ⟨by omega, by omega⟩) (fun s86 hs86 => ?_)
                rw [hS1]
                refine z_ifb_eq (tgt := 96) eX12_ask_89 rfl (fun h89 => ?_) (fun h89 => ?_)
                · refine z_iconst eX12_ask_96 ?_
                  refine z_iadd eX12_ask_97 ?_
                  refine z_is5 eX12_ask_98 (Nat.ne_of_beq_eq_false rfl) ?_
                  refine z_ii6 eX12_ask_100 (Nat.ne_of_beq_eq_false rfl) ?_
                  refine z_goto eX12_ask_103 (tgt := 64) rfl ?_
                  first | (have e2 := h89; rw [zbi_t ⟨h78, e2⟩] at ih2; exact ih2 s86 (hSc.trans hs86.x)) | (have e2 := h89; rw [zbi_f (fun z => e2 z.2)] at ih2; exact ih2 s86 (hSc.trans hs86.x)) | (rw [zbi_f (fun z => h78 z.1)] at ih2; exact ih2 S hSc) | fail
                · refine z_iconst eX12_ask_92 ?_
                  refine z_goto eX12_ask_93 (tgt := 97) rfl ?_
                  refine z_iadd eX12_ask_97 ?_
                  refine z_is5 eX12_ask_98 (Nat.ne_of_beq_eq_false rfl) ?_
                  refine z_ii6 eX12_ask_100 (Nat.ne_of_beq_eq_false rfl) ?_
                  refine z_goto eX12_ask_103 (tgt := 64) rfl ?_
                  first | (have e2 := h89; rw [zbi_t ⟨h78, e2⟩] at ih2; exact ih2 s86 (hSc.trans hs86.x)) | (have e2 := h89; rw [zbi_f (fun z => e2 z.2)] at ih2; exact ih2 s86 (hSc.trans hs86.x)) | (rw [zbi_f (fun z => h78 z.1)] at ih2; exact ih2 S hSc) | fail
          refine z_il4 eX12_ask_39 ?_
          refine z_al0 eX12_ask_41 hR.ne ?_
          refine z_ra lX12_7 eX12_ask_42 rfl hR rfl ?_
          try rw [hS1]
          refine z_iconst eX12_ask_45 ?_
          refine z_rl eX12_ask_46 hR (by decide) rfl rfl ⟨by omega, by omega⟩ ?_
          try rw [hS1]
          refine z_icmp_ge (tgt := 141) eX12_ask_47 rfl ⟨⟨by omega, by omega⟩, ⟨by omega, by omega⟩⟩ (fun h47 => (by exfalso; omega)) (fun h47 => ?_)
          refine z_il1 eX12_ask_50 ?_
          refine z_S1 eX12_ask_51 vX12_283 rfl rfl (Nat.le_of_ble_eq_true rfl) (Nat.le_of_ble_eq_true rfl) (m_X12_bits ) ?_
          try rw [hS1]
          refine z_iconst eX12_ask_54 ?_
          refine z_icmp_le (tgt := 141) eX12_ask_55 rfl ⟨⟨by omega, by omega⟩, ⟨by omega, by omega⟩⟩ (fun h55 => (by exfalso; omega)) (fun h55 => ?_)
          refine z_iconst eX12_ask_58 ?_
          refine z_is5 eX12_ask_59 (Nat.ne_of_beq_eq_false rfl) ?_
          refine z_iconst eX12_ask_61 ?_
          refine z_is6 eX12_ask_62 (Nat.ne_of_beq_eq_false rfl) ?_
          exact w64 0 (by decide) (by decide) S hSc
        · have hp0 : p = 0 := hor.resolve_left h1
          rw [hp0]
          unfold qAskV
          rw [if_neg h1]
          refine z_il4 eX12_ask_39 ?_
          refine z_al0 eX12_ask_41 hR.ne ?_
          refine z_ra lX12_7 eX12_ask_42 rfl hR rfl ?_
          try rw [hS1]
          refine z_iconst eX12_ask_45 ?_
          refine z_rl eX12_ask_46 hR (by decide) rfl rfl ⟨by omega, by omega⟩ ?_
          try rw [hS1]
          refine z_icmp_ge (tgt := 141) eX12_ask_47 rfl ⟨⟨by omega, by omega⟩, ⟨by omega, by omega⟩⟩ (fun h47 => (by exfalso; omega)) (fun h47 => ?_)
          refine z_il1 eX12_ask_50 ?_
          refine z_S1 eX12_ask_51 vX12_283 rfl rfl (Nat.le_of_ble_eq_true rfl) (Nat.le_of_ble_eq_true rfl) (m_X12_bits ) ?_
          try rw [hS1]
          refine z_iconst eX12_ask_54 ?_
          refine z_icmp_le (tgt := 141) eX12_ask_55 rfl ⟨⟨by omega, by omega⟩, ⟨by omega, by omega⟩⟩ (fun h55 => ?_) (fun h55 => (by exfalso; omega))
          refine z_il2 eX12_ask_141 ?_
          refine z_ireturn eX12_ask_142 rfl ?_
          exact zXe hSc rfl
    unfold qHrd at *
    refine z_al0 eX12_ask_0 hR.ne ?_
    refine z_al0 eX12_ask_1 hR.ne ?_
    refine z_V0x eX12_ask_2 vX12_389 rfl rfl (Nat.le_of_ble_eq_true rfl) (Nat.le_of_ble_eq_true rfl) hR.x (m_X12_heard hR hS hJ hM hT) (fun s2 hs2 => ?_)
    obtain ⟨hs2, h9⟩ := hs2
    have h9 := h9 hC
    refine z_ifb_eq (tgt := 12) eX12_ask_5 rfl (fun h5 => absurd hC h5) (fun h5 => ?_)
    refine z_iconst eX12_ask_8 ?_
    refine z_goto eX12_ask_9 (tgt := 13) rfl ?_
    refine z_rp (j := 0) lX12_48 eX12_ask_13 rfl hR rfl rfl ?_
    refine z_al0 eX12_ask_16 hR.ne ?_
    refine z_rg (j := 0) lX12_48 eX12_ask_17 rfl hR rfl rfl ?_
    try rw [hs2.n0]
    rw [zset_eq]
    refine z_if_le (tgt := 25) eX12_ask_20 rfl ⟨by omega, by omega⟩ (fun h20 => ?_) (fun h20 => (by exfalso; omega))
    have h99 : ∀ t, 0 ≤ t → t < 5 → zset s2 0 0 0 9 t = qWays σ (-1) t := (fun t t0 t1 => by rw [zset_o (by decide)]; exact h9 t t0 t1)
    have hb9 : ∀ t, 0 ≤ t → t < 5 → zin8 (zset s2 0 0 0 9 t) := (fun t t0 t1 => by rw [h99 t t0 t1]; have := hwb t; exact ⟨by omega, by omega⟩)
    refine z_al0 eX12_ask_25 hR.ne ?_
    refine z_V0 eX12_ask_26 vX12_392 rfl rfl (Nat.le_of_ble_eq_true rfl) (Nat.le_of_ble_eq_true rfl) hR.x (m_X12_skiesNow hR hb9) ?_
    try rw [hs2.r1]
    rw [qSkies_c h99, hset]
    refine z_is1 eX12_ask_29 (Nat.ne_of_beq_eq_false rfl) ?_
    refine z_iconst eX12_ask_30 ?_
    refine z_is2 eX12_ask_31 (Nat.ne_of_beq_eq_false rfl) ?_
    refine z_ldcw eX12_ask_32 kX12_360 ?_
    refine z_is3 eX12_ask_35 (Nat.ne_of_beq_eq_false rfl) ?_
    refine z_iconst eX12_ask_36 ?_
    refine z_is4 eX12_ask_37 (Nat.ne_of_beq_eq_false rfl) ?_
    exact w39 0 (by decide) hm3.1 _ _ _ (Nat.ne_of_beq_eq_false rfl) (hs2.set (by decide) (fun _ => Or.inl rfl)) (Or.inr rfl)
  · rw [zif_f hC, qThr1_f hC]
    unfold qHrd
    refine z_al0 eX12_ask_0 hR.ne ?_
    refine z_al0 eX12_ask_1 hR.ne ?_
    refine z_V0x eX12_ask_2 vX12_389 rfl rfl (Nat.le_of_ble_eq_true rfl) (Nat.le_of_ble_eq_true rfl) hR.x (m_X12_heard hR hS hJ hM hT) (fun s2 hs2 => ?_)
    obtain ⟨hs2, h9⟩ := hs2
    refine z_ifb_eq (tgt := 12) eX12_ask_5 rfl (fun h5 => ?_) (fun h5 => absurd h5 hC)
    refine z_iconst eX12_ask_12 ?_
    refine z_rp (j := 0) lX12_48 eX12_ask_13 rfl hR rfl rfl ?_
    refine z_al0 eX12_ask_16 hR.ne ?_
    refine z_rg (j := 0) lX12_48 eX12_ask_17 rfl hR rfl rfl ?_
    try rw [hs2.n0]
    rw [zset_eq]
    refine z_if_le (tgt := 25) eX12_ask_20 rfl ⟨by omega, by omega⟩ (fun h20 => (by exfalso; omega)) (fun h20 => ?_)
    refine z_iconst eX12_ask_23 ?_
    refine z_ireturn eX12_ask_24 rfl ?_
    exact zXe (hs2.set (by decide) (fun _ => Or.inl rfl)) rfl
