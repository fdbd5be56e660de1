/-! All lines of the law. -/
theorem qLine_bd {T : Int → Int} {e a : Int} {A : Int → Int × Int × Int} (hB : ∀ a, 0 ≤ a → a ≤ e → qC e 6 a (A a)) (h : 0 ≤ a ∧ a ≤ e) (he : e ≤ 400) (hT : ∀ k, 0 ≤ k → k < 400 → 0 ≤ T k) : qAx e 6 (qLine T e A a).2.2.2.1 (qLine T e A a).2.2.2.2 ∧ a ≤ (qLine T e A a).2.2.2.1 ∧ (0 ≤ (qLine T e A a).2.1 ∧ (qLine T e A a).2.1 ≤ 9999) := by
  have h2 : ∀ k n p f, qAt e p f → a ≤ p → 0 ≤ n → n ≤ 9999 → qAx e 6 (qL2 T e A k n p f).2.2.2.1 (qL2 T e A k n p f).2.2.2.2 ∧ a ≤ (qL2 T e A k n p f).2.2.2.1 ∧ (0 ≤ (qL2 T e A k n p f).2.1 ∧ (qL2 T e A k n p f).2.1 ≤ 9999) := by
    intro k n p f hp hap hn0 hn1
    obtain ⟨p1, p2, p3, p4⟩ := hp
    unfold qL2
    have hc := qskip_bd (T := T) p2
    generalize qscan qbl T e p = c at hc ⊢
    by_cases hf : f = -1
    · rw [if_pos hf]
      by_cases hw : qhas T e c qw_if
      · rw [zif_t hw]
        have hl : c + 2 ≤ e := qhas_bd hw hc.2
        have hr := qSm_bd (T := T) (by decide) hB (c + 2) (by omega) hl
        generalize qSm T e A (c + 2) = r at hr ⊢
        have hr3 := hr.2.2
        split
        · exact ⟨hr.1, by show a ≤ r.2.1; omega, hn0, hn1⟩
        · exact ⟨hr.1, by show a ≤ r.2.1; omega, by show (0 : Int) ≤ 0; decide, by show (0 : Int) ≤ 9999; decide⟩
      · rw [zif_f hw]
        exact ⟨⟨by show 0 ≤ c; omega, by show c ≤ e + 6; omega, fun _ => hc.2, by show (-1 : Int) ≤ -1; decide, by show (-1 : Int) ≤ 400; decide⟩, by show a ≤ c; omega, hn0, hn1⟩
    · rw [if_neg hf]
      exact ⟨⟨p1, by show p ≤ e + 6; omega, fun _ => p2, p3, p4⟩, hap, by show (0 : Int) ≤ 0; decide, by show (0 : Int) ≤ 9999; decide⟩
  have h1 : ∀ k p, a ≤ p → p ≤ e → qAx e 6 (qL1 T e A k p).2.2.2.1 (qL1 T e A k p).2.2.2.2 ∧ a ≤ (qL1 T e A k p).2.2.2.1 ∧ (0 ≤ (qL1 T e A k p).2.1 ∧ (qL1 T e A k p).2.1 ≤ 9999) := by
    intro k p q1 q2
    unfold qL1
    split
    · exact h2 k 0 p (-1) ⟨by omega, q2, by decide, by omega⟩ q1 (by decide) (by decide)
    · have hg := qFig_bd (T := T) (e := e) (lo := 0) (hi := 20) (a := p) (f := -1) ⟨by omega, q2, by decide, by omega⟩ he hT
      have hl := qFig_le (T := T) (e := e) (lo := 0) (hi := 20) (a := p) (f := -1) q2 (fun k z1 z2 => hT k (by omega) (by omega))
      exact h2 k _ _ _ hg.1 (by omega) hg.2.2.1 hg.2.2.2
  unfold qLine
  have hb := qskip_bd (T := T) h.2
  generalize qscan qbl T e a = b at hb ⊢
  by_cases w0 : qhas T e b qw_feel
  · have hl : b + 4 ≤ e := qhas_bd w0 hb.2
    rw [zif_t w0]; exact h1 0 (b + 4) (by omega) hl
  rw [zif_f w0]
  by_cases w1 : qhas T e b qw_dull
  · have hl : b + 4 ≤ e := qhas_bd w1 hb.2
    rw [zif_t w1]; exact h1 1 (b + 4) (by omega) hl
  rw [zif_f w1]
  by_cases w2 : qhas T e b qw_lapse
  · have hl : b + 5 ≤ e := qhas_bd w2 hb.2
    rw [zif_t w2]; exact h1 2 (b + 5) (by omega) hl
  rw [zif_f w2]
  exact ⟨⟨by show 0 ≤ b; omega, by show b ≤ e + 6; omega, fun _ => hb.2, by show -1 ≤ b; omega, by show b ≤ 400; omega⟩, hb.1, by show (0 : Int) ≤ 0; decide, by show (0 : Int) ≤ 9999; decide⟩
/-- at most k more lines of the law from a on, n read so far -/
noncomputable def qLawN (T : Int → Int) (e : Int) (A : Int → Int × Int × Int) : Nat → Int → (Int × Int × Int) → Int → Int × (Int × Int × Int) × Int × Int
  | 0, n, W, a => (n, W, a, -1)
  | k + 1, n, W, a =>
    let b := qscan qbl T e a
    let L := qLine T e A b
    let c := qscan qbl T e L.2.2.2.1
    if n = 12 then (13, W, b, b) else if L.2.2.2.2 = -1 ∧ c < e then (if T c = 59 then qLawN T e A k (n + 1) (qLw L W) (c + 1) else (n + 1, qLw L W, c, c)) else (n + 1, qLw L W, c, L.2.2.2.2)
noncomputable def qLaw (T : Int → Int) (e : Int) (A : Int → Int × Int × Int) (W : Int × Int × Int) (a : Int) : Int × (Int × Int × Int) × Int × Int :=
  if qscan qbl T e a < e then qLawN T e A 13 0 W (qscan qbl T e a) else (0, W, qscan qbl T e a, -1)
def qW01 (W : Int × Int × Int) : Prop := (W.2.1 = 0 ∨ W.2.1 = 1) ∧ (W.2.2 = 0 ∨ W.2.2 = 1)
theorem qLw_01 {W : Int × Int × Int} {L : Int × Int × Int × Int × Int} (h : qW01 W) : qW01 (qLw L W) := by
  unfold qW01 qLw qLh qLl at *
  dsimp only
  refine ⟨?_, ?_⟩
  · split <;> omega
  · split
    · omega
    · split <;> omega
section ZLR
variable {G : zG} {lay : zLay} {σ C0 : zMem} {nx x a f : Int}
/-- also past the end -/
theorem p_skip2 (hR : RefL lay x) (hT : TxI σ) (ha : 0 ≤ a ∧ a ≤ 1000) : zMM G 2 KX12_skip [zP x] lay (rC x (pS σ a f) C0) nx (0, 0) (zR none lay (rC x (pS σ (qscan qbl (rT σ) (σ 0 10) a) f) C0) nx) := by
  by_cases h : a ≤ σ 0 10
  · exact p_X12_skip hR hT ⟨ha.1, h⟩
  · rw [show qscan qbl (rT σ) (σ 0 10) a = a from qscan_ge (by omega)]
    refine z_met' (L := [zP x]) gX12_skip.1 rfl rfl (Nat.le_of_ble_eq_true rfl) rfl ?_
    have h10 := hT.2
    refine z_al0 eX12_skip_0 hR.ne ?_
    refine z_rg (j := 11) lX12_71 eX12_skip_1 rfl hR rfl rfl ?_
    rw [pS_11]
    refine z_al0 eX12_skip_4 hR.ne ?_
    refine z_rg (j := 10) lX12_74 eX12_skip_5 rfl hR rfl rfl ?_
    rw [pS_10]
    refine z_icmp_ge (tgt := 37) eX12_skip_8 rfl ⟨⟨by omega, by omega⟩, ⟨by omega, by omega⟩⟩ (fun h8 => ?_) (fun h8 => (by exfalso; omega))
    refine z_return eX12_skip_37 rfl ?_
    exact ⟨rfl, rfl, rfl, rfl⟩
theorem c_lawLine {W : Int × Int × Int} (hR : RefL lay x) (hS : TxS lay C0) (hL : LwH σ) (hd : σ 0 13 = 0) (hW : qW01 W) (ha : 0 ≤ a ∧ a ≤ σ 0 10) : zMM G 63 KX12_lawLine [zP x] lay (rC x (pS (zLw σ W) a (-1)) C0) nx (0, 0) (zR none lay (rC x (pS (zLw σ (qLw (qLine (rT σ) (σ 0 10) (qA6 σ) a) W)) (qLine (rT σ) (σ 0 10) (qA6 σ) a).2.2.2.1 (qLine (rT σ) (σ 0 10) (qA6 σ) a).2.2.2.2) C0) nx) := by
  have h := p_X12_lawLine (G := G) (nx := nx) (a := a) (f := -1) hR hS (hL.w W).1 ((zLw_f (by decide)).trans hd) hW.1 hW.2 (by rw [zLw_f (by decide)]; exact ha) rfl
  unfold qA6 at h
  rwa [(hL.w W).2, zLw_f (by decide), zLw_f (by decide), zLw_f (by decide), zLw_o (by decide), zLw_17, zLw_18, zLw_19, zLw_zLw] at h
theorem c_lskip {W : Int × Int × Int} (hR : RefL lay x) (hL : LwH σ) (ha : 0 ≤ a ∧ a ≤ 1000) : zMM G 2 KX12_skip [zP x] lay (rC x (pS (zLw σ W) a f) C0) nx (0, 0) (zR none lay (rC x (pS (zLw σ W) (qscan qbl (rT σ) (σ 0 10) a) f) C0) nx) := by
  have h := p_skip2 (G := G) (C0 := C0) (nx := nx) (f := f) hR (hL.w W).1.1 ha
  rwa [(hL.w W).2, zLw_f (by decide)] at h
theorem c_lsign {W : Int × Int × Int} {c : Int} (hR : RefL lay x) (hL : LwH σ) (ha : 0 ≤ a ∧ a ≤ σ 0 10) (hc : zin c) : zMM G 3 KX12_isSign [zP x, zI c] lay (rC x (pS (zLw σ W) a f) C0) nx (0, 0) (zR (some (zI (zbi (qscan qbl (rT σ) (σ 0 10) a < σ 0 10 ∧ rT σ (qscan qbl (rT σ) (σ 0 10) a) = c)))) lay (rC x (pS (zLw σ W) (qscan qbl (rT σ) (σ 0 10) a) f) C0) nx) := by
  have h := p_X12_isSign (G := G) (C0 := C0) (nx := nx) (f := f) hR (hL.w W).1.1 (by rw [zLw_f (by decide)]; exact ha) hc
  rwa [(hL.w W).2, zLw_f (by decide)] at h
theorem p_X12_readL {W : Int × Int × Int} (hR : RefL lay x) (hS : TxS lay C0) (hL : LwH σ) (hd : σ 0 13 = 0) (hW : qW01 W) (ha : 0 ≤ a ∧ a ≤ σ 0 10) : zMM G 64 KX12_read [zP x, zI 1] lay (rC x (pS (zLw σ W) a (-1)) C0) nx (0, 0) (zR (some (zI (qLaw (rT σ) (σ 0 10) (qA6 σ) W a).1)) lay (rC x (pS (zLw σ (qLaw (rT σ) (σ 0 10) (qA6 σ) W a).2.1) (qLaw (rT σ) (σ 0 10) (qA6 σ) W a).2.2.1 (qLaw (rT σ) (σ 0 10) (qA6 σ) W a).2.2.2) C0) nx) := by
  refine z_met' (L := [zP x, zI 1, zU, zU]) gX12_read.1 rfl rfl (Nat.le_of_ble_eq_true rfl) rfl ?_
  have hT := hL.1
  have h10 : σ 0 10 ≤ 400 := hT.2.2.1
  have hz : ∀ V : Int × Int × Int, zLw σ V 0 10 = σ 0 10 := fun V => zLw_f (by decide)
  have hB := qAtom_bd (T := rT σ) (e := σ 0 10) hL.2.1 hL.2.2.1 hL.2.2.2 h10 hT.p 6
  have hbd := qskip_bd (T := rT σ) ha.2
  have hcl : ∀ (V : Int × Int × Int) (c : Int), qW01 V → 0 ≤ c ∧ c ≤ σ 0 10 → _ := fun V c hV hc => c_lawLine (G := G) (nx := nx) (C0 := C0) hR hS hL hd hV hc
  unfold qLaw
  generalize hA : qA6 σ = A at hcl ⊢
  unfold qA6 at hA
  rw [hA] at hB
  generalize hb0 : qscan qbl (rT σ) (σ 0 10) a = a0 at hbd ⊢
  have wx : ∀ (n : Int) (V : Int × Int × Int) (c g : Int), zin g → g ≠ -1 → zW G KX12_read 64 (zR (some (zI n)) lay (rC x (pS (zLw σ V) c g) C0) nx) 27 [zP x, zI 1, zI 1, zI n] [] lay (rC x (pS (zLw σ V) c g) C0) nx (0, 0) := by
    intro n V c g g1 g2
    refine z_al0 eX12_read_27 hR.ne ?_
    refine z_rg (j := 12) lX12_25 eX12_read_28 rfl hR rfl rfl ?_
    rw [pS_12]
    refine z_iconst eX12_read_31 ?_
    refine z_icmp_ne (tgt := 144) eX12_read_32 rfl ⟨g1, by decide⟩ (fun h32 => ?_) (fun h32 => absurd h32 g2)
    refine z_il3 eX12_read_144 ?_
    refine z_ireturn eX12_read_145 rfl ?_
    first | exact ⟨rfl, rfl, rfl, rfl⟩ | exact zRb1 (by omega) | exact zRb0 (by omega) | exact zRe (by omega)
  have hl : ∀ (k : Nat) (n : Int) (V : Int × Int × Int) (a : Int) (r : Int × (Int × Int × Int) × Int × Int), n + k = 13 → 0 ≤ n → 1 ≤ k → 0 ≤ a → a ≤ σ 0 10 → qW01 V → qLawN (rT σ) (σ 0 10) A k n V a = r → zW G KX12_read 64 (zR (some (zI r.1)) lay (rC x (pS (zLw σ r.2.1) r.2.2.1 r.2.2.2) C0) nx) 27 [zP x, zI 1, zI 1, zI n] [] lay (rC x (pS (zLw σ V) a (-1)) C0) nx (0, 0) := by
    intro k
    induction k with
    | zero => intro n V a r _ _ z; omega
    | succ k ih =>
      intro n V a r hn h0 _ ha0 ha1 hV hr
      have hbd2 := qskip_bd (T := rT σ) ha1
      unfold qLawN at hr
      dsimp only at hr
      have hbb := qskip_idem (T := rT σ) (e := σ 0 10) (a := a)
      generalize hb : qscan qbl (rT σ) (σ 0 10) a = b at hbd2 hr hbb
      have hcl := hcl V b hV ⟨by omega, hbd2.2⟩
      have hLb := qLine_bd (T := rT σ) (e := σ 0 10) (a := b) hB ⟨by omega, hbd2.2⟩ h10 hT.p
      have hW2 : qW01 (qLw (qLine (rT σ) (σ 0 10) A b) V) := qLw_01 hV
      generalize qLine (rT σ) (σ 0 10) A b = L at hcl hLb hr hW2
      obtain ⟨⟨L1, L2, L3, L4, L5⟩, L6, L7⟩ := hLb
      have hbd3 : L.2.2.2.2 = -1 → _ := fun z => qskip_bd (T := rT σ) (L3 z)
      have hcc := qskip_idem (T := rT σ) (e := σ 0 10) (a := L.2.2.2.1)
      generalize hc : qscan qbl (rT σ) (σ 0 10) L.2.2.2.1 = c at hbd3 hr hcc
      by_cases hn12 : n = 12
      · rw [if_pos hn12] at hr
        subst hr
        subst hn12
        refine z_al0 eX12_read_27 hR.ne ?_
        refine z_rg (j := 12) lX12_25 eX12_read_28 rfl hR rfl rfl ?_
        rw [pS_12]
        refine z_iconst eX12_read_31 ?_
        refine z_icmp_ne (tgt := 144) eX12_read_32 rfl ⟨⟨by omega, by omega⟩, ⟨by omega, by omega⟩⟩ (fun h32 => (by exfalso; omega)) (fun h32 => ?_)
        refine z_al0 eX12_read_35 hR.ne ?_
        refine z_V0v eX12_read_36 vX12_81 rfl rfl (Nat.le_of_ble_eq_true rfl) (Nat.le_of_ble_eq_true rfl) hR.x (c_lskip hR hL ⟨ha0, by omega⟩) ?_
        rw [hb]
        refine z_il3 eX12_read_39 ?_
        refine z_il1 eX12_read_40 ?_
        refine z_if_eq (tgt := 49) eX12_read_41 rfl ⟨by omega, by omega⟩ (fun h41 => (by exfalso; omega)) (fun h41 => ?_)
        refine z_bipush eX12_read_44 (by decide) ?_
        refine z_goto eX12_read_46 (tgt := 51) rfl ?_
        refine z_icmp_ne (tgt := 65) eX12_read_51 rfl ⟨⟨by omega, by omega⟩, ⟨by omega, by omega⟩⟩ (fun h51 => (by exfalso; omega)) (fun h51 => ?_)
        refine z_al0 eX12_read_54 hR.ne ?_
        refine z_al0 eX12_read_55 hR.ne ?_
        refine z_rg (j := 11) lX12_71 eX12_read_56 rfl hR rfl rfl ?_
        rw [pS_11]
        refine z_V1v eX12_read_59 vX12_97 rfl rfl (Nat.le_of_ble_eq_true rfl) (Nat.le_of_ble_eq_true rfl) hR.x (p_X12_wrong hR ⟨by omega, by omega⟩) ?_
        refine z_goto eX12_read_62 (tgt := 80) rfl ?_
        rw [if_pos rfl]
        refine z_ii3 eX12_read_80 (Nat.ne_of_beq_eq_false rfl) ?_
        refine z_al0 eX12_read_83 hR.ne ?_
        refine z_V0v eX12_read_84 vX12_81 rfl rfl (Nat.le_of_ble_eq_true rfl) (Nat.le_of_ble_eq_true rfl) hR.x (c_lskip hR hL ⟨by omega, by omega⟩) ?_
        rw [hbb]
        refine z_al0 eX12_read_87 hR.ne ?_
        refine z_rg (j := 12) lX12_25 eX12_read_88 rfl hR rfl rfl ?_
        rw [pS_12]
        refine z_iconst eX12_read_91 ?_
        refine z_icmp_ne (tgt := 106) eX12_read_92 rfl ⟨⟨by omega, by omega⟩, ⟨by omega, by omega⟩⟩ (fun h92 => ?_) (fun h92 => (by exfalso; omega))
        refine z_iconst eX12_read_106 ?_
        refine z_is2 eX12_read_107 (Nat.ne_of_beq_eq_false rfl) ?_
        refine z_goto eX12_read_108 (tgt := 23) rfl ?_
        refine z_il2 eX12_read_23 ?_
        refine z_if_eq (tgt := 144) eX12_read_24 rfl ⟨by omega, by omega⟩ (fun h24 => ?_) (fun h24 => (by exfalso; omega))
        refine z_il3 eX12_read_144 ?_
        refine z_ireturn eX12_read_145 rfl ?_
        first | exact ⟨rfl, rfl, rfl, rfl⟩ | exact zRb1 (by omega) | exact zRb0 (by omega) | exact zRe (by omega)
      · rw [if_neg hn12] at hr
        refine z_al0 eX12_read_27 hR.ne ?_
        refine z_rg (j := 12) lX12_25 eX12_read_28 rfl hR rfl rfl ?_
        rw [pS_12]
        refine z_iconst eX12_read_31 ?_
        refine z_icmp_ne (tgt := 144) eX12_read_32 rfl ⟨⟨by omega, by omega⟩, ⟨by omega, by omega⟩⟩ (fun h32 => (by exfalso; omega)) (fun h32 => ?_)
        refine z_al0 eX12_read_35 hR.ne ?_
        refine z_V0v eX12_read_36 vX12_81 rfl rfl (Nat.le_of_ble_eq_true rfl) (Nat.le_of_ble_eq_true rfl) hR.x (c_lskip hR hL ⟨ha0, by omega⟩) ?_
        rw [hb]
        refine z_il3 eX12_read_39 ?_
        refine z_il1 eX12_read_40 ?_
        refine z_if_eq (tgt := 49) eX12_read_41 rfl ⟨by omega, by omega⟩ (fun h41 => (by exfalso; omega)) (fun h41 => ?_)
        refine z_bipush eX12_read_44 (by decide) ?_
        refine z_goto eX12_read_46 (tgt := 51) rfl ?_
        refine z_icmp_ne (tgt := 65) eX12_read_51 rfl ⟨⟨by omega, by omega⟩, ⟨by omega, by omega⟩⟩ (fun h51 => ?_) (fun h51 => (by exfalso; omega))
        refine z_il1 eX12_read_65 ?_
        refine z_if_eq (tgt := 76) eX12_read_66 rfl ⟨by omega, by omega⟩ (fun h66 => (by exfalso; omega)) (fun h66 => ?_)
        refine z_al0 eX12_read_69 hR.ne ?_
        refine z_V0v eX12_read_70 vX12_190 rfl rfl (Nat.le_of_ble_eq_true rfl) (Nat.le_of_ble_eq_true rfl) hR.x (hcl ) ?_
        refine z_goto eX12_read_73 (tgt := 80) rfl ?_
        refine z_ii3 eX12_read_80 (Nat.ne_of_beq_eq_false rfl) ?_
        refine z_al0 eX12_read_83 hR.ne ?_
        refine z_V0v eX12_read_84 vX12_81 rfl rfl (Nat.le_of_ble_eq_true rfl) (Nat.le_of_ble_eq_true rfl) hR.x (c_lskip hR hL ⟨L1, by omega⟩) ?_
        rw [hc]
        refine z_al0 eX12_read_87 hR.ne ?_
        refine z_rg (j := 12) lX12_25 eX12_read_88 rfl hR rfl rfl ?_
        rw [pS_12]
        refine z_iconst eX12_read_91 ?_
        refine z_icmp_ne (tgt := 106) eX12_read_92 rfl ⟨⟨by omega, by omega⟩, ⟨by omega, by omega⟩⟩ (fun h92 => ?_) (fun h92 => ?_)
        · refine z_iconst eX12_read_106 ?_
          refine z_is2 eX12_read_107 (Nat.ne_of_beq_eq_false rfl) ?_
          refine z_goto eX12_read_108 (tgt := 23) rfl ?_
          refine z_il2 eX12_read_23 ?_
          refine z_if_eq (tgt := 144) eX12_read_24 rfl ⟨by omega, by omega⟩ (fun h24 => ?_) (fun h24 => (by exfalso; omega))
          refine z_il3 eX12_read_144 ?_
          refine z_ireturn eX12_read_145 rfl ?_
          (rw [if_neg (by omega)] at hr; subst hr; exact ⟨rfl, rfl, rfl, rfl⟩)
        · have hb3 := hbd3 h92
          refine z_al0 eX12_read_95 hR.ne ?_
          refine z_rg (j := 11) lX12_71 eX12_read_96 rfl hR rfl rfl ?_
          rw [pS_11]
          refine z_al0 eX12_read_99 hR.ne ?_
          refine z_rg (j := 10) lX12_74 eX12_read_100 rfl hR rfl rfl ?_
          rw [pS_10]
          rw [hz]
          refine z_icmp_ne (tgt := 111) eX12_read_103 rfl ⟨⟨by omega, by omega⟩, ⟨by omega, by omega⟩⟩ (fun h103 => ?_) (fun h103 => ?_)
          · refine z_al0 eX12_read_111 hR.ne ?_
            refine z_bipush eX12_read_112 (by decide) ?_
            refine z_V1 eX12_read_114 vX12_196 rfl rfl (Nat.le_of_ble_eq_true rfl) (Nat.le_of_ble_eq_true rfl) hR.x (c_lsign hR hL ⟨by omega, by omega⟩ (by decide)) ?_
            rw [hcc]
            refine z_ifb_eq (tgt := 133) eX12_read_117 rfl (fun h117 => ?_) (fun h117 => ?_)
            · refine z_al0 eX12_read_133 hR.ne ?_
              refine z_al0 eX12_read_134 hR.ne ?_
              refine z_rg (j := 11) lX12_71 eX12_read_135 rfl hR rfl rfl ?_
              rw [pS_11]
              refine z_V1v eX12_read_138 vX12_97 rfl rfl (Nat.le_of_ble_eq_true rfl) (Nat.le_of_ble_eq_true rfl) hR.x (p_X12_wrong hR ⟨by omega, by omega⟩) ?_
              simp only [if_pos h92]
              refine z_goto eX12_read_141 (tgt := 23) rfl ?_
              refine z_il2 eX12_read_23 ?_
              refine z_if_eq (tgt := 144) eX12_read_24 rfl ⟨by omega, by omega⟩ (fun h24 => (by exfalso; omega)) (fun h24 => ?_)
              first | (rw [if_pos ⟨h92, by omega⟩, if_pos h117.2] at hr; rw [h92]; exact ih (n + 1) _ (c + 1) r (by omega) (by omega) (by omega) (by omega) (by omega) hW2 hr) | (rw [if_pos ⟨h92, by omega⟩, if_neg (fun z => h117 ⟨by omega, z⟩)] at hr; subst hr; exact wx (n + 1) _ c c ⟨by omega, by omega⟩ (by omega))
            · refine z_al0 eX12_read_120 hR.ne ?_
              refine z_dup eX12_read_121 (Nat.ne_of_beq_eq_false rfl) ?_
              refine z_rg (j := 11) lX12_71 eX12_read_122 rfl hR rfl rfl ?_
              rw [pS_11]
              refine z_iconst eX12_read_125 ?_
              refine z_iadd eX12_read_126 ?_
              refine z_rp (j := 11) lX12_71 eX12_read_127 rfl hR rfl rfl ?_
              rw [pS_s11]
              refine z_goto eX12_read_130 (tgt := 23) rfl ?_
              refine z_il2 eX12_read_23 ?_
              refine z_if_eq (tgt := 144) eX12_read_24 rfl ⟨by omega, by omega⟩ (fun h24 => (by exfalso; omega)) (fun h24 => ?_)
              first | (rw [if_pos ⟨h92, by omega⟩, if_pos h117.2] at hr; rw [h92]; exact ih (n + 1) _ (c + 1) r (by omega) (by omega) (by omega) (by omega) (by omega) hW2 hr) | (rw [if_pos ⟨h92, by omega⟩, if_neg (fun z => h117 ⟨by omega, z⟩)] at hr; subst hr; exact wx (n + 1) _ c c ⟨by omega, by omega⟩ (by omega))
          · refine z_iconst eX12_read_106 ?_
            refine z_is2 eX12_read_107 (Nat.ne_of_beq_eq_false rfl) ?_
            refine z_goto eX12_read_108 (tgt := 23) rfl ?_
            refine z_il2 eX12_read_23 ?_
            refine z_if_eq (tgt := 144) eX12_read_24 rfl ⟨by omega, by omega⟩ (fun h24 => ?_) (fun h24 => (by exfalso; omega))
            refine z_il3 eX12_read_144 ?_
            refine z_ireturn eX12_read_145 rfl ?_
            (rw [if_neg (by omega)] at hr; subst hr; exact ⟨rfl, rfl, rfl, rfl⟩)
  refine z_al0 eX12_read_0 hR.ne ?_
  refine z_V0v eX12_read_1 vX12_81 rfl rfl (Nat.le_of_ble_eq_true rfl) (Nat.le_of_ble_eq_true rfl) hR.x (c_lskip hR hL ⟨ha.1, by omega⟩) ?_
  rw [hb0]
  refine z_al0 eX12_read_4 hR.ne ?_
  refine z_rg (j := 11) lX12_71 eX12_read_5 rfl hR rfl rfl ?_
  rw [pS_11]
  refine z_al0 eX12_read_8 hR.ne ?_
  refine z_rg (j := 10) lX12_74 eX12_read_9 rfl hR rfl rfl ?_
  rw [pS_10]
  rw [hz]
  refine z_icmp_ge (tgt := 19) eX12_read_12 rfl ⟨⟨by omega, by omega⟩, ⟨by omega, by omega⟩⟩ (fun h12 => ?_) (fun h12 => ?_)
  · refine z_iconst eX12_read_19 ?_
    refine z_is2 eX12_read_20 (Nat.ne_of_beq_eq_false rfl) ?_
    refine z_iconst eX12_read_21 ?_
    refine z_is3 eX12_read_22 (Nat.ne_of_beq_eq_false rfl) ?_
    refine z_il2 eX12_read_23 ?_
    refine z_if_eq (tgt := 144) eX12_read_24 rfl ⟨by omega, by omega⟩ (fun h24 => ?_) (fun h24 => (by exfalso; omega))
    refine z_il3 eX12_read_144 ?_
    refine z_ireturn eX12_read_145 rfl ?_
    (rw [if_neg (by omega)]; exact ⟨rfl, rfl, rfl, rfl⟩)
  · refine z_iconst eX12_read_15 ?_
    refine z_goto eX12_read_16 (tgt := 20) rfl ?_
    refine z_is2 eX12_read_20 (Nat.ne_of_beq_eq_false rfl) ?_
    refine z_iconst eX12_read_21 ?_
    refine z_is3 eX12_read_22 (Nat.ne_of_beq_eq_false rfl) ?_
    refine z_il2 eX12_read_23 ?_
    refine z_if_eq (tgt := 144) eX12_read_24 rfl ⟨by omega, by omega⟩ (fun h24 => (by exfalso; omega)) (fun h24 => ?_)
    rw [if_pos (by omega)]
    exact hl 13 0 W a0 _ (by decide) (by omega) (by decide) (by omega) (by omega) hW rfl
end ZLR
