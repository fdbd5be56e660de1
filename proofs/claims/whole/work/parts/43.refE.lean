/-! All lines of the coast. -/
theorem qCoastLine_ok {T : Int → Int} {e a : Int} {M : Int → Int} (h : zOK M) (ha : 0 ≤ a ∧ a ≤ e) (he : e ≤ 400) (hT : ∀ k, 0 ≤ k → k < 400 → 0 ≤ T k) : zOK (qCoastLine T e M a).1 ∧ qAt e (qCoastLine T e M a).2.1 (qCoastLine T e M a).2.2 := by
  have hbd := qskip_bd (T := T) ha.2
  dsimp only [qCoastLine]
  generalize qscan qbl T e a = b at hbd ⊢
  have hw : ∀ {w : List Int}, qhas T e b w → b + w.length ≤ e := fun z => qhas_bd z hbd.2
  by_cases w0 : qhas T e b qw_member
  · rw [zif_t w0]; exact qMemberLine_ok h ⟨by omega, hw w0⟩ ⟨by omega, by omega⟩ he hT
  rw [zif_f w0]
  by_cases w1 : qhas T e b qw_motion
  · rw [zif_t w1]; exact qMotionLine_ok h ⟨by omega, hw w1⟩ ⟨by omega, by omega⟩ he hT
  rw [zif_f w1]
  by_cases w2 : qhas T e b qw_sky
  · rw [zif_t w2]; exact qSkyLine_ok h ⟨by omega, hw w2, by decide, by decide⟩ he
  rw [zif_f w2]
  by_cases w3 : qhas T e b qw_now
  · rw [zif_t w3]
    have hr := qSky_bd (T := T) (e := e) (a := b + 3) (f := -1) ⟨by omega, hw w3, by decide, by decide⟩ he
    generalize qSky T e (b + 3) (-1) = r at hr ⊢
    refine ⟨?_, hr.1⟩
    dsimp only
    split
    · exact h.put (Or.inl (by decide)) (fun _ _ => Or.inr hr.2.2)
    · exact h
  rw [zif_f w3]
  by_cases w4 : qhas T e b qw_place
  · rw [zif_t w4]; exact qPlaceLine_ok h ⟨by omega, hw w4, by decide, by decide⟩ he hT
  rw [zif_f w4]
  by_cases w5 : qhas T e b qw_quorum
  · rw [zif_t w5]; exact qTells_ok h ⟨by omega, hw w5, by decide, by decide⟩ he hT (by decide) (by decide)
  rw [zif_f w5]
  by_cases w6 : qhas T e b qw_aye
  · rw [zif_t w6]; exact qTells_ok h ⟨by omega, hw w6, by decide, by decide⟩ he hT (by decide) (by decide)
  rw [zif_f w6]
  by_cases w7 : qhas T e b qw_wet
  · rw [zif_t w7]; exact qTells_ok h ⟨by omega, hw w7, by decide, by decide⟩ he hT (by decide) (by decide)
  rw [zif_f w7]
  by_cases w8 : qhas T e b qw_paper
  · rw [zif_t w8]; exact qPaperLine_ok h ⟨by omega, hw w8, by decide, by decide⟩ he hT
  rw [zif_f w8]
  by_cases w9 : qhas T e b qw_hour
  · rw [zif_t w9]; exact qTells_ok h ⟨by omega, hw w9, by decide, by decide⟩ he hT (by decide) (by decide)
  rw [zif_f w9]
  by_cases wa : qhas T e b qw_day
  · rw [zif_t wa]; exact qTells_ok h ⟨by omega, hw wa, by decide, by decide⟩ he hT (by decide) (by decide)
  rw [zif_f wa]
  exact ⟨h, by dsimp only [qAt]; omega⟩
/-- at most k more lines of the coast from a on, n read so far: how many, the row, the place, the fault -/
noncomputable def qReadN (T : Int → Int) (e : Int) : Nat → Int → (Int → Int) → Int → Int × qLn
  | 0, n, M, a => (n, M, a, -1)
  | k + 1, n, M, a =>
    let b := qscan qbl T e a
    let L := qCoastLine T e M b
    let c := qscan qbl T e L.2.1
    if n = 14 then (15, M, b, b) else if L.2.2 = -1 ∧ c < e then (if T c = 59 then qReadN T e k (n + 1) L.1 (c + 1) else (n + 1, L.1, c, c)) else (n + 1, L.1, c, L.2.2)
noncomputable def qRead (T : Int → Int) (e : Int) (M : Int → Int) (a : Int) : Int × qLn :=
  if qscan qbl T e a < e then qReadN T e 15 0 M (qscan qbl T e a) else (0, M, qscan qbl T e a, -1)
section ZCS
variable {G : zG} {lay : zLay} {σ C0 : zMem} {M : Int → Int} {nx x a f : Int}
theorem c_X12_skip (hR : RefL lay x) (hT : TxI σ) (hB : σ 0 9 = -1) (ha : 0 ≤ a ∧ a ≤ σ 0 10) : zMM G 2 KX12_skip [zP x] lay (rC x (pS (zM σ M) a f) C0) nx (0, 0) (zR none lay (rC x (pS (zM σ M) (qscan qbl (rT σ) (σ 0 10) a) f) C0) nx) := by
  obtain ⟨t1, t2, t3⟩ := zM_T (M := M) hT hB
  have h := p_X12_skip (G := G) (C0 := C0) (nx := nx) (σ := zM σ M) (f := f) hR t1 (by rw [t3]; exact ha)
  rwa [t2, t3] at h
theorem c_X12_isSign {c : Int} (hR : RefL lay x) (hT : TxI σ) (hB : σ 0 9 = -1) (ha : 0 ≤ a ∧ a ≤ σ 0 10) (hc : zin c) : zMM G 3 KX12_isSign [zP x, zI c] lay (rC x (pS (zM σ M) a f) C0) nx (0, 0) (zR (some (zI (zbi (qscan qbl (rT σ) (σ 0 10) a < σ 0 10 ∧ rT σ (qscan qbl (rT σ) (σ 0 10) a) = c)))) lay (rC x (pS (zM σ M) (qscan qbl (rT σ) (σ 0 10) a) f) C0) nx) := by
  obtain ⟨t1, t2, t3⟩ := zM_T (M := M) hT hB
  have h := p_X12_isSign (G := G) (C0 := C0) (nx := nx) (σ := zM σ M) (f := f) hR t1 (by rw [t3]; exact ha) hc
  rwa [t2, t3] at h
theorem c_X12_coastLine (hR : RefL lay x) (hS : TxS lay C0) (hT : TxI σ) (hB : σ 0 9 = -1) (hM : zOK M) (ha : 0 ≤ a ∧ a ≤ σ 0 10) : zMM G 9 KX12_coastLine [zP x] lay (rC x (pS (zM σ M) a (-1)) C0) nx (0, 0) (zR none lay (rC x (pS (zM σ (qCoastLine (rT σ) (σ 0 10) M a).1) (qCoastLine (rT σ) (σ 0 10) M a).2.1 (qCoastLine (rT σ) (σ 0 10) M a).2.2) C0) nx) := by
  obtain ⟨t1, t2, t3⟩ := zM_T (M := M) hT hB
  have h := p_X12_coastLine (G := G) (C0 := C0) (nx := nx) (σ := zM σ M) (a := a) (f := -1) hR hS t1 (by rw [t3]; exact hB) (by rw [t3]; exact ⟨ha.1, ha.2, by decide, by decide⟩) rfl hM.1.m3 hM.1.m4 hM.1.P
  rwa [t2, t3, zM_1, zM_M] at h
end ZCS
theorem p_X12_readC {G : zG} {lay : zLay} {σ C0 : zMem} {M : Int → Int} {nx x a : Int} (hR : RefL lay x) (hS : TxS lay C0) (hT : TxI σ) (hB : σ 0 9 = -1) (hM : zOK M) (ha : 0 ≤ a ∧ a ≤ σ 0 10) : zMM G 63 KX12_read [zP x, zI 0] lay (rC x (pS (zM σ M) a (-1)) C0) nx (0, 0) (zR (some (zI (qRead (rT σ) (σ 0 10) M a).1)) lay (rC x (pS (zM σ (qRead (rT σ) (σ 0 10) M a).2.1) (qRead (rT σ) (σ 0 10) M a).2.2.1 (qRead (rT σ) (σ 0 10) M a).2.2.2) C0) nx) := by
  refine z_met' (L := [zP x, zI 0, zU, zU]) gX12_read.1 rfl rfl (Nat.le_of_ble_eq_true rfl) rfl ?_
  have h10 : σ 0 10 ≤ 400 := hT.2.2.1
  have hz : ∀ N : Int → Int, zM σ N 0 = σ 0 := fun N => (zM_T hT hB).2.2
  have hbd := qskip_bd (T := rT σ) ha.2
  unfold qRead
  generalize hb0 : qscan qbl (rT σ) (σ 0 10) a = a0 at hbd ⊢
  have wx : ∀ (n : Int) (N : Int → Int) (c g : Int), zin g → g ≠ -1 → zW G KX12_read 63 (zR (some (zI n)) lay (rC x (pS (zM σ N) c g) C0) nx) 27 [zP x, zI 0, zI 1, zI n] [] lay (rC x (pS (zM σ N) c g) C0) nx (0, 0) := by
    intro n N c g g1 g2
    refine z_al0 eX12_read_27 hR.ne ?_
    refine z_rg (j := 12) lX12_25 eX12_read_28 rfl hR rfl rfl ?_
    rw [pS_12]
    refine z_iconst eX12_read_31 ?_
    refine z_icmp_ne (tgt := 144) eX12_read_32 rfl ⟨g1, by decide⟩ (fun h32 => ?_) (fun h32 => absurd h32 g2)
    refine z_il3 eX12_read_144 ?_
    refine z_ireturn eX12_read_145 rfl ?_
    first | exact ⟨rfl, rfl, rfl, rfl⟩ | exact zRb1 (by omega) | exact zRb0 (by omega) | exact zRe (by omega)
  have hl : ∀ (k : Nat) (n : Int) (N : Int → Int) (a : Int) (r : Int × qLn), n + k = 15 → 0 ≤ n → 1 ≤ k → 0 ≤ a → a ≤ σ 0 10 → zOK N → qReadN (rT σ) (σ 0 10) k n N a = r → zW G KX12_read 63 (zR (some (zI r.1)) lay (rC x (pS (zM σ r.2.1) r.2.2.1 r.2.2.2) C0) nx) 27 [zP x, zI 0, zI 1, zI n] [] lay (rC x (pS (zM σ N) a (-1)) C0) nx (0, 0) := by
    intro k
    induction k with
    | zero => intro n N a r _ _ z; omega
    | succ k ih =>
      intro n N a r hn h0 _ ha0 ha1 hN hr
      have hbd2 := qskip_bd (T := rT σ) ha1
      unfold qReadN at hr
      dsimp only at hr
      have hbb := qskip_idem (T := rT σ) (e := σ 0 10) (a := a)
      generalize hb : qscan qbl (rT σ) (σ 0 10) a = b at hbd2 hr hbb
      have hL := qCoastLine_ok (T := rT σ) (e := σ 0 10) (a := b) hN ⟨by omega, hbd2.2⟩ h10 hT.p
      generalize hq : qCoastLine (rT σ) (σ 0 10) N b = L at hL hr
      obtain ⟨L0, L1, L2, L3, L4⟩ := hL
      have hbd3 := qskip_bd (T := rT σ) L2
      have hcc := qskip_idem (T := rT σ) (e := σ 0 10) (a := L.2.1)
      generalize hc : qscan qbl (rT σ) (σ 0 10) L.2.1 = c at hbd3 hr hcc
      by_cases hn14 : n = 14
      · rw [if_pos hn14] at hr
        subst hr
        subst hn14
        refine z_al0 eX12_read_27 hR.ne ?_
        refine z_rg (j := 12) lX12_25 eX12_read_28 rfl hR rfl rfl ?_
        rw [pS_12]
        refine z_iconst eX12_read_31 ?_
        refine z_icmp_ne (tgt := 144) eX12_read_32 rfl ⟨⟨by omega, by omega⟩, ⟨by omega, by omega⟩⟩ (fun h32 => (by exfalso; omega)) (fun h32 => ?_)
        refine z_al0 eX12_read_35 hR.ne ?_
        refine z_V0v eX12_read_36 vX12_81 rfl rfl (Nat.le_of_ble_eq_true rfl) (Nat.le_of_ble_eq_true rfl) hR.x (c_X12_skip hR hT hB ⟨by omega, by omega⟩) ?_
        rw [hb]
        refine z_il3 eX12_read_39 ?_
        refine z_il1 eX12_read_40 ?_
        refine z_if_eq (tgt := 49) eX12_read_41 rfl ⟨by omega, by omega⟩ (fun h41 => ?_) (fun h41 => (by exfalso; omega))
        refine z_bipush eX12_read_49 (by decide) ?_
        refine z_icmp_ne (tgt := 65) eX12_read_51 rfl ⟨⟨by omega, by omega⟩, ⟨by omega, by omega⟩⟩ (fun h51 => (by exfalso; omega)) (fun h51 => ?_)
        refine z_al0 eX12_read_54 hR.ne ?_
        refine z_al0 eX12_read_55 hR.ne ?_
        refine z_rg (j := 11) lX12_71 eX12_read_56 rfl hR rfl rfl ?_
        rw [pS_11]
        refine z_V1v eX12_read_59 vX12_97 rfl rfl (Nat.le_of_ble_eq_true rfl) (Nat.le_of_ble_eq_true rfl) hR.x (p_X12_wrong hR ⟨by omega, by omega⟩) ?_
        refine z_goto eX12_read_62 (tgt := 80) rfl ?_
        rw [if_pos rfl]
        refine z_ii3 eX12_read_80 (Nat.ne_of_beq_eq_false rfl) ?_
        refine z_al0 eX12_read_83 hR.ne ?_
        refine z_V0v eX12_read_84 vX12_81 rfl rfl (Nat.le_of_ble_eq_true rfl) (Nat.le_of_ble_eq_true rfl) hR.x (c_X12_skip hR hT hB ⟨by omega, by omega⟩) ?_
        rw [hbb]
        refine z_al0 eX12_read_87 hR.ne ?_
        refine z_rg (j := 12) lX12_25 eX12_read_88 rfl hR rfl rfl ?_
        rw [pS_12]
        refine z_iconst eX12_read_91 ?_
        refine z_icmp_ne (tgt := 106) eX12_read_92 rfl ⟨⟨by omega, by omega⟩, ⟨by omega, by omega⟩⟩ (fun h92 => ?_) (fun h92 => (by exfalso; omega))
        refine z_iconst eX12_read_106 ?_
        refine z_is2 eX12_read_107 (Nat.ne_of_beq_eq_false rfl) ?_
        refine z_goto eX12_read_108 (tgt := 23) rfl ?_
        refine z_il2 eX12_read_23 ?_
        refine z_if_eq (tgt := 144) eX12_read_24 rfl ⟨by omega, by omega⟩ (fun h24 => ?_) (fun h24 => (by exfalso; omega))
        refine z_il3 eX12_read_144 ?_
        refine z_ireturn eX12_read_145 rfl ?_
        first | exact ⟨rfl, rfl, rfl, rfl⟩ | exact zRb1 (by omega) | exact zRb0 (by omega) | exact zRe (by omega)
      · rw [if_neg hn14] at hr
        refine z_al0 eX12_read_27 hR.ne ?_
        refine z_rg (j := 12) lX12_25 eX12_read_28 rfl hR rfl rfl ?_
        rw [pS_12]
        refine z_iconst eX12_read_31 ?_
        refine z_icmp_ne (tgt := 144) eX12_read_32 rfl ⟨⟨by omega, by omega⟩, ⟨by omega, by omega⟩⟩ (fun h32 => (by exfalso; omega)) (fun h32 => ?_)
        refine z_al0 eX12_read_35 hR.ne ?_
        refine z_V0v eX12_read_36 vX12_81 rfl rfl (Nat.le_of_ble_eq_true rfl) (Nat.le_of_ble_eq_true rfl) hR.x (c_X12_skip hR hT hB ⟨by omega, by omega⟩) ?_
        rw [hb]
        refine z_il3 eX12_read_39 ?_
        refine z_il1 eX12_read_40 ?_
        refine z_if_eq (tgt := 49) eX12_read_41 rfl ⟨by omega, by omega⟩ (fun h41 => ?_) (fun h41 => (by exfalso; omega))
        refine z_bipush eX12_read_49 (by decide) ?_
        refine z_icmp_ne (tgt := 65) eX12_read_51 rfl ⟨⟨by omega, by omega⟩, ⟨by omega, by omega⟩⟩ (fun h51 => ?_) (fun h51 => (by exfalso; omega))
        refine z_il1 eX12_read_65 ?_
        refine z_if_eq (tgt := 76) eX12_read_66 rfl ⟨by omega, by omega⟩ (fun h66 => ?_) (fun h66 => (by exfalso; omega))
        refine z_al0 eX12_read_76 hR.ne ?_
        refine z_V0v eX12_read_77 vX12_193 rfl rfl (Nat.le_of_ble_eq_true rfl) (Nat.le_of_ble_eq_true rfl) hR.x (c_X12_coastLine hR hS hT hB hN ⟨by omega, by omega⟩) ?_
        rw [hq]
        refine z_ii3 eX12_read_80 (Nat.ne_of_beq_eq_false rfl) ?_
        refine z_al0 eX12_read_83 hR.ne ?_
        refine z_V0v eX12_read_84 vX12_81 rfl rfl (Nat.le_of_ble_eq_true rfl) (Nat.le_of_ble_eq_true rfl) hR.x (c_X12_skip hR hT hB ⟨by omega, by omega⟩) ?_
        rw [hc]
        refine z_al0 eX12_read_87 hR.ne ?_
        refine z_rg (j := 12) lX12_25 eX12_read_88 rfl hR rfl rfl ?_
        rw [pS_12]
        refine z_iconst eX12_read_91 ?_
        refine z_icmp_ne (tgt := 106) eX12_read_92 rfl ⟨⟨by omega, by omega⟩, ⟨by omega, by omega⟩⟩ (fun h92 => ?_) (fun h92 => ?_)
        · refine z_iconst eX12_read_106 ?_
          refine z_is2 eX12_read_107 (Nat.ne_of_beq_eq_false rfl) ?_
          refine z_goto eX12_read_108 (tgt := 23) rfl ?_
          refine z_il2 eX12_read_23 ?_
          refine z_if_eq (tgt := 144) eX12_read_24 rfl ⟨by omega, by omega⟩ (fun h24 => ?_) (fun h24 => (by exfalso; omega))
          refine z_il3 eX12_read_144 ?_
          refine z_ireturn eX12_read_145 rfl ?_
          (rw [if_neg (by omega)] at hr; subst hr; exact ⟨rfl, rfl, rfl, rfl⟩)
        · refine z_al0 eX12_read_95 hR.ne ?_
          refine z_rg (j := 11) lX12_71 eX12_read_96 rfl hR rfl rfl ?_
          rw [pS_11]
          refine z_al0 eX12_read_99 hR.ne ?_
          refine z_rg (j := 10) lX12_74 eX12_read_100 rfl hR rfl rfl ?_
          rw [pS_10]
          rw [hz]
          refine z_icmp_ne (tgt := 111) eX12_read_103 rfl ⟨⟨by omega, by omega⟩, ⟨by omega, by omega⟩⟩ (fun h103 => ?_) (fun h103 => ?_)
          · refine z_al0 eX12_read_111 hR.ne ?_
            refine z_bipush eX12_read_112 (by decide) ?_
            refine z_V1 eX12_read_114 vX12_196 rfl rfl (Nat.le_of_ble_eq_true rfl) (Nat.le_of_ble_eq_true rfl) hR.x (c_X12_isSign hR hT hB ⟨by omega, by omega⟩ (by decide)) ?_
            rw [hcc]
            refine z_ifb_eq (tgt := 133) eX12_read_117 rfl (fun h117 => ?_) (fun h117 => ?_)
            · refine z_al0 eX12_read_133 hR.ne ?_
              refine z_al0 eX12_read_134 hR.ne ?_
              refine z_rg (j := 11) lX12_71 eX12_read_135 rfl hR rfl rfl ?_
              rw [pS_11]
              refine z_V1v eX12_read_138 vX12_97 rfl rfl (Nat.le_of_ble_eq_true rfl) (Nat.le_of_ble_eq_true rfl) hR.x (p_X12_wrong hR ⟨by omega, by omega⟩) ?_
              simp only [if_pos h92]
              refine z_goto eX12_read_141 (tgt := 23) rfl ?_
              refine z_il2 eX12_read_23 ?_
              refine z_if_eq (tgt := 144) eX12_read_24 rfl ⟨by omega, by omega⟩ (fun h24 => (by exfalso; omega)) (fun h24 => ?_)
              first | (rw [if_pos ⟨h92, by omega⟩, if_pos h117.2] at hr; rw [h92]; exact ih (n + 1) L.1 (c + 1) r (by omega) (by omega) (by omega) (by omega) (by omega) L0 hr) | (rw [if_pos ⟨h92, by omega⟩, if_neg (fun z => h117 ⟨by omega, z⟩)] at hr; subst hr; exact wx (n + 1) L.1 c c ⟨by omega, by omega⟩ (by omega))
            · refine z_al0 eX12_read_120 hR.ne ?_
              refine z_dup eX12_read_121 (Nat.ne_of_beq_eq_false rfl) ?_
              refine z_rg (j := 11) lX12_71 eX12_read_122 rfl hR rfl rfl ?_
              rw [pS_11]
              refine z_iconst eX12_read_125 ?_
              refine z_iadd eX12_read_126 ?_
              refine z_rp (j := 11) lX12_71 eX12_read_127 rfl hR rfl rfl ?_
              rw [pS_s11]
              refine z_goto eX12_read_130 (tgt := 23) rfl ?_
              refine z_il2 eX12_read_23 ?_
              refine z_if_eq (tgt := 144) eX12_read_24 rfl ⟨by omega, by omega⟩ (fun h24 => (by exfalso; omega)) (fun h24 => ?_)
              first | (rw [if_pos ⟨h92, by omega⟩, if_pos h117.2] at hr; rw [h92]; exact ih (n + 1) L.1 (c + 1) r (by omega) (by omega) (by omega) (by omega) (by omega) L0 hr) | (rw [if_pos ⟨h92, by omega⟩, if_neg (fun z => h117 ⟨by omega, z⟩)] at hr; subst hr; exact wx (n + 1) L.1 c c ⟨by omega, by omega⟩ (by omega))
          · refine z_iconst eX12_read_106 ?_
            refine z_is2 eX12_read_107 (Nat.ne_of_beq_eq_false rfl) ?_
            refine z_goto eX12_read_108 (tgt := 23) rfl ?_
            refine z_il2 eX12_read_23 ?_
            refine z_if_eq (tgt := 144) eX12_read_24 rfl ⟨by omega, by omega⟩ (fun h24 => ?_) (fun h24 => (by exfalso; omega))
            refine z_il3 eX12_read_144 ?_
            refine z_ireturn eX12_read_145 rfl ?_
            (rw [if_neg (by omega)] at hr; subst hr; exact ⟨rfl, rfl, rfl, rfl⟩)
  refine z_al0 eX12_read_0 hR.ne ?_
  refine z_V0v eX12_read_1 vX12_81 rfl rfl (Nat.le_of_ble_eq_true rfl) (Nat.le_of_ble_eq_true rfl) hR.x (c_X12_skip hR hT hB ⟨by omega, by omega⟩) ?_
  rw [hb0]
  refine z_al0 eX12_read_4 hR.ne ?_
  refine z_rg (j := 11) lX12_71 eX12_read_5 rfl hR rfl rfl ?_
  rw [pS_11]
  refine z_al0 eX12_read_8 hR.ne ?_
  refine z_rg (j := 10) lX12_74 eX12_read_9 rfl hR rfl rfl ?_
  rw [pS_10]
  rw [hz]
  refine z_icmp_ge (tgt := 19) eX12_read_12 rfl ⟨⟨by omega, by omega⟩, ⟨by omega, by omega⟩⟩ (fun h12 => ?_) (fun h12 => ?_)
  · refine z_iconst eX12_read_19 ?_
    refine z_is2 eX12_read_20 (Nat.ne_of_beq_eq_false rfl) ?_
    refine z_iconst eX12_read_21 ?_
    refine z_is3 eX12_read_22 (Nat.ne_of_beq_eq_false rfl) ?_
    refine z_il2 eX12_read_23 ?_
    refine z_if_eq (tgt := 144) eX12_read_24 rfl ⟨by omega, by omega⟩ (fun h24 => ?_) (fun h24 => (by exfalso; omega))
    refine z_il3 eX12_read_144 ?_
    refine z_ireturn eX12_read_145 rfl ?_
    (rw [if_neg (by omega)]; exact ⟨rfl, rfl, rfl, rfl⟩)
  · refine z_iconst eX12_read_15 ?_
    refine z_goto eX12_read_16 (tgt := 20) rfl ?_
    refine z_is2 eX12_read_20 (Nat.ne_of_beq_eq_false rfl) ?_
    refine z_iconst eX12_read_21 ?_
    refine z_is3 eX12_read_22 (Nat.ne_of_beq_eq_false rfl) ?_
    refine z_il2 eX12_read_23 ?_
    refine z_if_eq (tgt := 144) eX12_read_24 rfl ⟨by omega, by omega⟩ (fun h24 => (by exfalso; omega)) (fun h24 => ?_)
    rw [if_pos (by omega)]
    exact hl 15 0 M a0 _ (by decide) (by omega) (by decide) (by omega) (by omega) hM rfl
