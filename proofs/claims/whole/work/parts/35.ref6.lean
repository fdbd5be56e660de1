/-! The lines of the coast: the row of numbers, the place behind, the fault. -/
abbrev qLn := (Int → Int) × Int × Int
abbrev qF0 (σ : zMem) : Prop := ∀ k, 0 ≤ k → k < 400 → 0 ≤ rT σ k
theorem TxI.p {σ : zMem} (h : TxI σ) : ∀ k, 0 ≤ k → k < 400 → 0 ≤ rT σ k := fun k h0 h1 => (h.2.2.2 k h0 h1).1
def qTells (T : Int → Int) (e : Int) (M : Int → Int) (w lo hi a f : Int) : qLn :=
  (if (qFig T e lo hi a f).2.2 = -1 then zput M w (qFig T e lo hi a f).1 else M, (qFig T e lo hi a f).2)
theorem p_X12_tells {G : zG} {lay : zLay} {σ C0 : zMem} {nx x a f : Int} {w lo hi : Int} (hR : RefL lay x) (hT : TxI σ) (ha : qAt (σ 0 10) a f) (hw : 0 ≤ w ∧ w < 826) (hlo : zin lo) (hhi : zin hi) : zMM G 5 KX12_tells [zP x, zI w, zI lo, zI hi] lay (rC x (pS σ a f) C0) nx (0, 0) (zR none lay (rC x (pS (zM σ (qTells (rT σ) (σ 0 10) (σ 1) w lo hi a f).1) (qTells (rT σ) (σ 0 10) (σ 1) w lo hi a f).2.1 (qTells (rT σ) (σ 0 10) (σ 1) w lo hi a f).2.2) C0) nx) := by
  refine z_met' (L := [zP x, zI w, zI lo, zI hi, zU]) gX12_tells.1 rfl rfl (Nat.le_of_ble_eq_true rfl) rfl ?_
  have h10 : σ 0 10 ≤ 400 := hT.2.2.1
  have hr := qFig_bd (lo := lo) (hi := hi) ha h10 hT.p
  obtain ⟨h1, h2, h3, h4⟩ := ha
  unfold qTells
  generalize hq : qFig (rT σ) (σ 0 10) lo hi a f = r at hr ⊢
  obtain ⟨⟨r1, r2, r3, r4⟩, r5, r6, r7⟩ := hr
  refine z_al0 eX12_tells_0 hR.ne ?_
  refine z_il2 eX12_tells_1 ?_
  refine z_il3 eX12_tells_2 ?_
  refine z_V2 eX12_tells_3 vX12_105 rfl rfl (Nat.le_of_ble_eq_true rfl) (Nat.le_of_ble_eq_true rfl) hR.x (p_X12_figures hR hT ⟨by omega, by omega⟩ ⟨by omega, by omega⟩ hlo hhi) ?_
  rw [hq]
  refine z_is4 eX12_tells_6 (Nat.ne_of_beq_eq_false rfl) ?_
  refine z_al0 eX12_tells_8 hR.ne ?_
  refine z_rg (j := 12) lX12_25 eX12_tells_9 rfl hR rfl rfl ?_
  rw [pS_12]
  refine z_iconst eX12_tells_12 ?_
  refine z_icmp_ne (tgt := 24) eX12_tells_13 rfl ⟨⟨by omega, by omega⟩, ⟨by omega, by omega⟩⟩ (fun h13 => ?_) (fun h13 => ?_)
  · refine z_return eX12_tells_24 rfl ?_
    first | (rw [if_pos h13]; exact ⟨rfl, rfl, rfl, rfl⟩) | (rw [if_neg h13, zM_self]; exact ⟨rfl, rfl, rfl, rfl⟩)
  · refine z_al0 eX12_tells_16 hR.ne ?_
    refine z_ra lX12_7 eX12_tells_17 rfl hR rfl ?_
    refine z_il1 eX12_tells_20 ?_
    refine z_il4 eX12_tells_21 ?_
    refine z_rs eX12_tells_23 hR (by decide) rfl rfl ⟨by omega, by omega⟩ ?_
    first | rw [pS_sM] | rw [pS_s1] | skip
    refine z_return eX12_tells_24 rfl ?_
    first | (rw [if_pos h13]; exact ⟨rfl, rfl, rfl, rfl⟩) | (rw [if_neg h13, zM_self]; exact ⟨rfl, rfl, rfl, rfl⟩)
noncomputable def qPlaceLine (T : Int → Int) (e : Int) (M : Int → Int) (a f : Int) : qLn :=
  (if (qAfter T e qw_exposed 0 9 (qFig T e 0 7 a f).2.1 (qFig T e 0 7 a f).2.2).2.2 = -1 then zput M (38 + (qFig T e 0 7 a f).1) (qAfter T e qw_exposed 0 9 (qFig T e 0 7 a f).2.1 (qFig T e 0 7 a f).2.2).1 else M, (qAfter T e qw_exposed 0 9 (qFig T e 0 7 a f).2.1 (qFig T e 0 7 a f).2.2).2)
theorem p_X12_placeLine {G : zG} {lay : zLay} {σ C0 : zMem} {nx x a f : Int} (hR : RefL lay x) (hS : TxS lay C0) (hT : TxI σ) (ha : qAt (σ 0 10) a f) : zMM G 8 KX12_placeLine [zP x] lay (rC x (pS σ a f) C0) nx (0, 0) (zR none lay (rC x (pS (zM σ (qPlaceLine (rT σ) (σ 0 10) (σ 1) a f).1) (qPlaceLine (rT σ) (σ 0 10) (σ 1) a f).2.1 (qPlaceLine (rT σ) (σ 0 10) (σ 1) a f).2.2) C0) nx) := by
  refine z_met' (L := [zP x, zU, zU]) gX12_placeLine.1 rfl rfl (Nat.le_of_ble_eq_true rfl) rfl ?_
  have h10 : σ 0 10 ≤ 400 := hT.2.2.1
  have hr := qFig_bd (lo := 0) (hi := 7) ha h10 hT.p
  obtain ⟨h1, h2, h3, h4⟩ := ha
  unfold qPlaceLine
  generalize hq : qFig (rT σ) (σ 0 10) 0 7 a f = r at hr ⊢
  have hs := qAfter_bd (lo := 0) (hi := 9) (w := qw_exposed) hr.1 h10 hT.p
  have hr0 := hr.1
  obtain ⟨⟨r1, r2, r3, r4⟩, r5, r6, r7⟩ := hr
  generalize hp : qAfter (rT σ) (σ 0 10) qw_exposed 0 9 r.2.1 r.2.2 = s at hs ⊢
  obtain ⟨⟨s1, s2, s3, s4⟩, s5, s6, s7⟩ := hs
  refine z_al0 eX12_placeLine_0 hR.ne ?_
  refine z_iconst eX12_placeLine_1 ?_
  refine z_bipush eX12_placeLine_2 (by decide) ?_
  refine z_V2 eX12_placeLine_4 vX12_105 rfl rfl (Nat.le_of_ble_eq_true rfl) (Nat.le_of_ble_eq_true rfl) hR.x (p_X12_figures hR hT ⟨by omega, by omega⟩ ⟨by omega, by omega⟩ ⟨by omega, by omega⟩ ⟨by omega, by omega⟩) ?_
  rw [hq]
  refine z_is1 eX12_placeLine_7 (Nat.ne_of_beq_eq_false rfl) ?_
  refine z_al0 eX12_placeLine_8 hR.ne ?_
  refine z_ldcS (t := 68) eX12_placeLine_9 rfl rfl rfl (by rw [(hS 68 _ rfl).1]) ?_
  refine z_iconst eX12_placeLine_11 ?_
  refine z_bipush eX12_placeLine_12 (by decide) ?_
  refine z_V3 eX12_placeLine_14 vX12_109 rfl rfl (Nat.le_of_ble_eq_true rfl) (Nat.le_of_ble_eq_true rfl) hR.x (p_X12_after (t := 68) (w := qw_exposed) hR hS rfl hT (by first | assumption | exact ⟨by omega, by omega, by omega, by omega⟩) ⟨by omega, by omega⟩ ⟨by omega, by omega⟩) ?_
  rw [hp]
  refine z_is2 eX12_placeLine_17 (Nat.ne_of_beq_eq_false rfl) ?_
  refine z_al0 eX12_placeLine_18 hR.ne ?_
  refine z_rg (j := 12) lX12_25 eX12_placeLine_19 rfl hR rfl rfl ?_
  rw [pS_12]
  refine z_iconst eX12_placeLine_22 ?_
  refine z_icmp_ne (tgt := 36) eX12_placeLine_23 rfl ⟨⟨by omega, by omega⟩, ⟨by omega, by omega⟩⟩ (fun h23 => ?_) (fun h23 => ?_)
  · refine z_return eX12_placeLine_36 rfl ?_
    first | (rw [if_pos h23]; exact ⟨rfl, rfl, rfl, rfl⟩) | (rw [if_neg h23, zM_self]; exact ⟨rfl, rfl, rfl, rfl⟩)
  · refine z_al0 eX12_placeLine_26 hR.ne ?_
    refine z_ra lX12_7 eX12_placeLine_27 rfl hR rfl ?_
    refine z_bipush eX12_placeLine_30 (by decide) ?_
    refine z_il1 eX12_placeLine_32 ?_
    refine z_iadd eX12_placeLine_33 ?_
    refine z_il2 eX12_placeLine_34 ?_
    refine z_rs eX12_placeLine_35 hR (by decide) rfl rfl ⟨by omega, by omega⟩ ?_
    first | rw [pS_sM] | rw [pS_s1] | skip
    refine z_return eX12_placeLine_36 rfl ?_
    first | (rw [if_pos h23]; exact ⟨rfl, rfl, rfl, rfl⟩) | (rw [if_neg h23, zM_self]; exact ⟨rfl, rfl, rfl, rfl⟩)
section ZPQ
variable {G : zG} {lay : zLay} {σ C0 : zMem} {nx x a f : Int}
theorem p_X12_standsIn {v : Int} (hR : RefL lay x) (hv : zin v) (hs : ∀ t, 0 ≤ t → t < 12 → zin (σ 1 (114 + t))) : zMM G 1 KX12_standsIn [zP x, zI v] lay (rC x (pS σ a f) C0) nx (0, 0) (zR (some (zI (qstands (σ 1) v 12))) lay (rC x (pS σ a f) C0) nx) := by
  have h := m_X12_standsIn (G := G) (C0 := C0) (nx := nx) (σ := pS σ a f) hR hv (by rw [pS_1]; exact hs)
  rw [pS_1] at h
  exact h
end ZPQ
theorem qstands_bd {M : Int → Int} {t : Int} : ∀ m : Nat, -1 ≤ qstands M t m ∧ qstands M t m < m ∨ qstands M t m = -1 := by
  intro m
  induction m with
  | zero => exact Or.inr rfl
  | succ m ih =>
    have e : ((m + 1 : Nat) : Int) = (m : Int) + 1 := by omega
    rw [e, qstands_s M t (by omega)]
    split <;> omega
def qPaperLine (T : Int → Int) (e : Int) (M : Int → Int) (a f : Int) : qLn :=
  let r := qFig T e 0 11 a f
  let b := qscan qbl T e r.2.1
  let s := qFig T e 0 (M 4 - 1) b r.2.2
  let g := if s.2.2 = -1 ∧ ¬ qstands M s.1 12 = -1 ∧ ¬ qstands M s.1 12 = r.1 then b else s.2.2
  (if g = -1 then zput M (114 + r.1) s.1 else M, s.2.1, g)
theorem p_X12_paperLine {G : zG} {lay : zLay} {σ C0 : zMem} {nx x a f : Int} (hR : RefL lay x) (hT : TxI σ) (ha : qAt (σ 0 10) a f) (hm : 0 ≤ σ 1 4 ∧ σ 1 4 ≤ 8) (hs : ∀ t, 0 ≤ t → t < 12 → zin (σ 1 (114 + t))) : zMM G 5 KX12_paperLine [zP x] lay (rC x (pS σ a f) C0) nx (0, 0) (zR none lay (rC x (pS (zM σ (qPaperLine (rT σ) (σ 0 10) (σ 1) a f).1) (qPaperLine (rT σ) (σ 0 10) (σ 1) a f).2.1 (qPaperLine (rT σ) (σ 0 10) (σ 1) a f).2.2) C0) nx) := by
  refine z_met' (L := [zP x, zU, zU, zU, zU]) gX12_paperLine.1 rfl rfl (Nat.le_of_ble_eq_true rfl) rfl ?_
  have h10 : σ 0 10 ≤ 400 := hT.2.2.1
  have hr := qFig_bd (lo := 0) (hi := 11) ha h10 hT.p
  obtain ⟨h1, h2, h3, h4⟩ := ha
  dsimp only [qPaperLine]
  generalize hq : qFig (rT σ) (σ 0 10) 0 11 a f = r at hr ⊢
  obtain ⟨⟨r1, r2, r3, r4⟩, r5, r6, r7⟩ := hr
  have hbd := qskip_bd (T := rT σ) r2
  generalize hb : qscan qbl (rT σ) (σ 0 10) r.2.1 = b at hbd ⊢
  have hs2 := qFig_bd (lo := 0) (hi := σ 1 4 - 1) (a := b) (f := r.2.2) ⟨by omega, hbd.2, r3, r4⟩ h10 hT.p
  generalize hp : qFig (rT σ) (σ 0 10) 0 (σ 1 4 - 1) b r.2.2 = s at hs2 ⊢
  obtain ⟨⟨s1, s2, s3, s4⟩, s5, s6, s7⟩ := hs2
  have hst := qstands_bd (M := σ 1) (t := s.1) 12
  have e12 : ((12 : Nat) : Int) = 12 := rfl
  rw [e12] at hst
  refine z_al0 eX12_paperLine_0 hR.ne ?_
  refine z_iconst eX12_paperLine_1 ?_
  refine z_bipush eX12_paperLine_2 (by decide) ?_
  refine z_V2 eX12_paperLine_4 vX12_105 rfl rfl (Nat.le_of_ble_eq_true rfl) (Nat.le_of_ble_eq_true rfl) hR.x (p_X12_figures hR hT ⟨by omega, by omega⟩ ⟨by omega, by omega⟩ ⟨by omega, by omega⟩ ⟨by omega, by omega⟩) ?_
  rw [hq]
  refine z_is1 eX12_paperLine_7 (Nat.ne_of_beq_eq_false rfl) ?_
  refine z_al0 eX12_paperLine_8 hR.ne ?_
  refine z_V0 eX12_paperLine_9 vX12_94 rfl rfl (Nat.le_of_ble_eq_true rfl) (Nat.le_of_ble_eq_true rfl) hR.x (p_X12_here hR hT ⟨by omega, by omega⟩) ?_
  rw [hb]
  refine z_is2 eX12_paperLine_12 (Nat.ne_of_beq_eq_false rfl) ?_
  refine z_al0 eX12_paperLine_13 hR.ne ?_
  refine z_iconst eX12_paperLine_14 ?_
  refine z_al0 eX12_paperLine_15 hR.ne ?_
  refine z_ra lX12_7 eX12_paperLine_16 rfl hR rfl ?_
  refine z_iconst eX12_paperLine_19 ?_
  refine z_rl eX12_paperLine_20 hR (by decide) rfl rfl ⟨by omega, by omega⟩ ?_
  first | rw [pS_1M] | rw [pS_1] | skip
  refine z_iconst eX12_paperLine_21 ?_
  refine z_isub eX12_paperLine_22 ?_
  refine z_V2 eX12_paperLine_23 vX12_105 rfl rfl (Nat.le_of_ble_eq_true rfl) (Nat.le_of_ble_eq_true rfl) hR.x (p_X12_figures hR hT ⟨by omega, by omega⟩ ⟨by omega, by omega⟩ ⟨by omega, by omega⟩ ⟨by omega, by omega⟩) ?_
  rw [hp]
  refine z_is3 eX12_paperLine_26 (Nat.ne_of_beq_eq_false rfl) ?_
  refine z_al0 eX12_paperLine_27 hR.ne ?_
  refine z_rg (j := 12) lX12_25 eX12_paperLine_28 rfl hR rfl rfl ?_
  rw [pS_12]
  refine z_iconst eX12_paperLine_31 ?_
  refine z_icmp_ne (tgt := 43) eX12_paperLine_32 rfl ⟨⟨by omega, by omega⟩, ⟨by omega, by omega⟩⟩ (fun h32 => ?_) (fun h32 => ?_)
  · refine z_iconst eX12_paperLine_43 ?_
    refine z_is4 eX12_paperLine_44 (Nat.ne_of_beq_eq_false rfl) ?_
    refine z_il4 eX12_paperLine_46 ?_
    refine z_iconst eX12_paperLine_48 ?_
    refine z_icmp_eq (tgt := 63) eX12_paperLine_49 rfl ⟨⟨by omega, by omega⟩, ⟨by omega, by omega⟩⟩ (fun h49 => ?_) (fun h49 => (by exfalso; omega))
    refine z_al0 eX12_paperLine_63 hR.ne ?_
    refine z_rg (j := 12) lX12_25 eX12_paperLine_64 rfl hR rfl rfl ?_
    rw [pS_12]
    refine z_iconst eX12_paperLine_67 ?_
    refine z_icmp_ne (tgt := 81) eX12_paperLine_68 rfl ⟨⟨by omega, by omega⟩, ⟨by omega, by omega⟩⟩ (fun h68 => ?_) (fun h68 => ?_)
    · refine z_return eX12_paperLine_81 rfl ?_
      repeat' split
      all_goals first | exact ⟨rfl, rfl, rfl, rfl⟩ | (exfalso; omega) | (rw [zM_self]; exact ⟨rfl, rfl, rfl, rfl⟩)
    · refine z_al0 eX12_paperLine_71 hR.ne ?_
      refine z_ra lX12_7 eX12_paperLine_72 rfl hR rfl ?_
      refine z_bipush eX12_paperLine_75 (by decide) ?_
      refine z_il1 eX12_paperLine_77 ?_
      refine z_iadd eX12_paperLine_78 ?_
      refine z_il3 eX12_paperLine_79 ?_
      refine z_rs eX12_paperLine_80 hR (by decide) rfl rfl ⟨by omega, by omega⟩ ?_
      first | rw [pS_sM] | rw [pS_s1] | skip
      refine z_return eX12_paperLine_81 rfl ?_
      repeat' split
      all_goals first | exact ⟨rfl, rfl, rfl, rfl⟩ | (exfalso; omega) | (rw [zM_self]; exact ⟨rfl, rfl, rfl, rfl⟩)
  · refine z_al0 eX12_paperLine_35 hR.ne ?_
    refine z_il3 eX12_paperLine_36 ?_
    refine z_V1 eX12_paperLine_37 vX12_144 rfl rfl (Nat.le_of_ble_eq_true rfl) (Nat.le_of_ble_eq_true rfl) hR.x (p_X12_standsIn hR ⟨by omega, by omega⟩ hs) ?_
    refine z_goto eX12_paperLine_40 (tgt := 44) rfl ?_
    refine z_is4 eX12_paperLine_44 (Nat.ne_of_beq_eq_false rfl) ?_
    refine z_il4 eX12_paperLine_46 ?_
    refine z_iconst eX12_paperLine_48 ?_
    refine z_icmp_eq (tgt := 63) eX12_paperLine_49 rfl ⟨⟨by omega, by omega⟩, ⟨by omega, by omega⟩⟩ (fun h49 => ?_) (fun h49 => ?_)
    · refine z_al0 eX12_paperLine_63 hR.ne ?_
      refine z_rg (j := 12) lX12_25 eX12_paperLine_64 rfl hR rfl rfl ?_
      rw [pS_12]
      refine z_iconst eX12_paperLine_67 ?_
      refine z_icmp_ne (tgt := 81) eX12_paperLine_68 rfl ⟨⟨by omega, by omega⟩, ⟨by omega, by omega⟩⟩ (fun h68 => ?_) (fun h68 => ?_)
      · refine z_return eX12_paperLine_81 rfl ?_
        repeat' split
        all_goals first | exact ⟨rfl, rfl, rfl, rfl⟩ | (exfalso; omega) | (rw [zM_self]; exact ⟨rfl, rfl, rfl, rfl⟩)
      · refine z_al0 eX12_paperLine_71 hR.ne ?_
        refine z_ra lX12_7 eX12_paperLine_72 rfl hR rfl ?_
        refine z_bipush eX12_paperLine_75 (by decide) ?_
        refine z_il1 eX12_paperLine_77 ?_
        refine z_iadd eX12_paperLine_78 ?_
        refine z_il3 eX12_paperLine_79 ?_
        refine z_rs eX12_paperLine_80 hR (by decide) rfl rfl ⟨by omega, by omega⟩ ?_
        first | rw [pS_sM] | rw [pS_s1] | skip
        refine z_return eX12_paperLine_81 rfl ?_
        repeat' split
        all_goals first | exact ⟨rfl, rfl, rfl, rfl⟩ | (exfalso; omega) | (rw [zM_self]; exact ⟨rfl, rfl, rfl, rfl⟩)
    · refine z_il4 eX12_paperLine_52 ?_
      refine z_il1 eX12_paperLine_54 ?_
      refine z_icmp_eq (tgt := 63) eX12_paperLine_55 rfl ⟨⟨by omega, by omega⟩, ⟨by omega, by omega⟩⟩ (fun h55 => ?_) (fun h55 => ?_)
      · refine z_al0 eX12_paperLine_63 hR.ne ?_
        refine z_rg (j := 12) lX12_25 eX12_paperLine_64 rfl hR rfl rfl ?_
        rw [pS_12]
        refine z_iconst eX12_paperLine_67 ?_
        refine z_icmp_ne (tgt := 81) eX12_paperLine_68 rfl ⟨⟨by omega, by omega⟩, ⟨by omega, by omega⟩⟩ (fun h68 => ?_) (fun h68 => ?_)
        · refine z_return eX12_paperLine_81 rfl ?_
          repeat' split
          all_goals first | exact ⟨rfl, rfl, rfl, rfl⟩ | (exfalso; omega) | (rw [zM_self]; exact ⟨rfl, rfl, rfl, rfl⟩)
        · refine z_al0 eX12_paperLine_71 hR.ne ?_
          refine z_ra lX12_7 eX12_paperLine_72 rfl hR rfl ?_
          refine z_bipush eX12_paperLine_75 (by decide) ?_
          refine z_il1 eX12_paperLine_77 ?_
          refine z_iadd eX12_paperLine_78 ?_
          refine z_il3 eX12_paperLine_79 ?_
          refine z_rs eX12_paperLine_80 hR (by decide) rfl rfl ⟨by omega, by omega⟩ ?_
          first | rw [pS_sM] | rw [pS_s1] | skip
          refine z_return eX12_paperLine_81 rfl ?_
          repeat' split
          all_goals first | exact ⟨rfl, rfl, rfl, rfl⟩ | (exfalso; omega) | (rw [zM_self]; exact ⟨rfl, rfl, rfl, rfl⟩)
      · refine z_al0 eX12_paperLine_58 hR.ne ?_
        refine z_il2 eX12_paperLine_59 ?_
        refine z_V1v eX12_paperLine_60 vX12_97 rfl rfl (Nat.le_of_ble_eq_true rfl) (Nat.le_of_ble_eq_true rfl) hR.x (p_X12_wrong hR ⟨by omega, by omega⟩) ?_
        refine z_al0 eX12_paperLine_63 hR.ne ?_
        refine z_rg (j := 12) lX12_25 eX12_paperLine_64 rfl hR rfl rfl ?_
        rw [pS_12]
        refine z_iconst eX12_paperLine_67 ?_
        refine z_icmp_ne (tgt := 81) eX12_paperLine_68 rfl ⟨⟨by omega, by omega⟩, ⟨by omega, by omega⟩⟩ (fun h68 => ?_) (fun h68 => ?_)
        · refine z_return eX12_paperLine_81 rfl ?_
          repeat' split
          all_goals first | exact ⟨rfl, rfl, rfl, rfl⟩ | (exfalso; omega) | (rw [zM_self]; exact ⟨rfl, rfl, rfl, rfl⟩)
        · refine z_al0 eX12_paperLine_71 hR.ne ?_
          refine z_ra lX12_7 eX12_paperLine_72 rfl hR rfl ?_
          refine z_bipush eX12_paperLine_75 (by decide) ?_
          refine z_il1 eX12_paperLine_77 ?_
          refine z_iadd eX12_paperLine_78 ?_
          refine z_il3 eX12_paperLine_79 ?_
          refine z_rs eX12_paperLine_80 hR (by decide) rfl rfl ⟨by omega, by omega⟩ ?_
          first | rw [pS_sM] | rw [pS_s1] | skip
          refine z_return eX12_paperLine_81 rfl ?_
          repeat' split
          all_goals first | exact ⟨rfl, rfl, rfl, rfl⟩ | (exfalso; omega) | (rw [zM_self]; exact ⟨rfl, rfl, rfl, rfl⟩)
