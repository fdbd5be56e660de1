/-! The mover and the opposition. -/
theorem zB_zorN (f : Int → Int) (k : Nat) : ∀ m : Nat, zB (zorN f m) k = true ↔ ∃ t : Nat, t < m ∧ zB (f t) k = true := by
  intro m
  induction m with
  | zero => exact ⟨fun z => absurd (show zB 0 k = true from z) (by rw [zB_0]; exact Bool.false_ne_true), fun ⟨t, h, _⟩ => absurd h (Nat.not_lt_zero t)⟩
  | succ m ih =>
    rw [show zorN f (m + 1) = zor (zorN f m) (f m) from rfl, zB_or, Bool.or_eq_true, ih]
    constructor
    · rintro (⟨t, a, b⟩ | h)
      · exact ⟨t, by omega, b⟩
      · exact ⟨m, by omega, h⟩
    · rintro ⟨t, a, b⟩
      by_cases e : t = m
      · exact Or.inr (by rw [← e]; exact b)
      · exact Or.inl ⟨t, by omega, b⟩
theorem zB_zors (f : Int → Int) {n : Int} (hn : 0 ≤ n) (k : Nat) : zB (zors f n) k = true ↔ ∃ t : Int, (0 ≤ t ∧ t < n) ∧ zB (f t) k = true := by
  unfold zors
  rw [zB_zorN]
  constructor
  · rintro ⟨t, a, b⟩; exact ⟨t, ⟨by omega, by omega⟩, b⟩
  · rintro ⟨t, ⟨a, b⟩, c⟩; exact ⟨t.toNat, by omega, by rw [Int.toNat_of_nonneg a]; exact c⟩
theorem zB_shlb {b p : Int} {k : Nat} (hb : b = 0 ∨ b = 1) (h0 : 0 ≤ p) (h1 : p < 32) (hk : k < 32) : zB (zshl b p) k = true ↔ b = 1 ∧ (k : Int) = p := by
  rcases hb with e | e
  · subst e
    have h := zshl_0 p.toNat (by omega)
    rw [Int.toNat_of_nonneg h0] at h
    rw [h, zB_0]
    exact ⟨fun z => absurd z Bool.false_ne_true, fun z => absurd z.1 (by decide)⟩
  · subst e
    rw [zB_shl1 h0 h1 hk]
    simp
/-- the bits of those who are out -/
theorem qOuts_B {M : Int → Int} (hM : zOK M) {p : Int} (hp : 0 ≤ p ∧ p < 32) : zbit (qOuts M) p = 1 ↔ p < M 3 ∧ M (46 + 4 * p + 3) = 1 := by
  have h3 := hM.1.m3
  rw [zbit_B1 hp.1 hp.2]
  unfold qOuts
  rw [zB_zors _ h3.1]
  constructor
  · rintro ⟨t, ⟨a, b⟩, c⟩
    have hU := hM.1.U (p := t) ⟨a, by omega⟩
    have h := (zB_shlb (by omega) a (by omega) (by omega)).mp c
    rw [Int.toNat_of_nonneg hp.1] at h
    rw [h.2]
    exact ⟨b, h.1⟩
  · rintro ⟨a, b⟩
    exact ⟨p, ⟨hp.1, a⟩, (zB_shlb (Or.inr b) hp.1 hp.2 (by omega)).mpr ⟨b, by omega⟩⟩
/-- the first n who are not for a motion gone in -/
def qGone (M : Int → Int) (k n : Int) : Int → Int := fun j => if 46 ≤ j ∧ j < 46 + 4 * n ∧ (j - 46) % 4 = 3 ∧ ¬ zbit (M (74 + 5 * k + 3)) ((j - 46) / 4) = 1 then 0 else M j
theorem qGone_s (M : Int → Int) (k : Int) {n : Int} (hn : 0 ≤ n) : qGone M k (n + 1) = if zbit (M (74 + 5 * k + 3)) n = 1 then qGone M k n else zput (qGone M k n) (46 + 4 * n + 3) 0 := by
  by_cases hb : zbit (M (74 + 5 * k + 3)) n = 1
  · rw [if_pos hb]
    funext j
    unfold qGone
    by_cases e : j = 46 + 4 * n + 3
    · rw [if_neg (fun z => z.2.2.2 (by rw [e, show (46 + 4 * n + 3 - 46) / 4 = n by omega]; exact hb)), if_neg (by omega)]
    · by_cases h : 46 ≤ j ∧ j < 46 + 4 * n ∧ (j - 46) % 4 = 3 ∧ ¬ zbit (M (74 + 5 * k + 3)) ((j - 46) / 4) = 1
      · rw [if_pos h, if_pos ⟨h.1, by omega, h.2.2⟩]
      · rw [if_neg h, if_neg (fun z => h ⟨z.1, by omega, z.2.2⟩)]
  · rw [if_neg hb]
    funext j
    unfold qGone zput
    by_cases e : j = 46 + 4 * n + 3
    · rw [if_pos e, if_pos ⟨by omega, by omega, by omega, by rw [e, show (46 + 4 * n + 3 - 46) / 4 = n by omega]; exact hb⟩]
    · rw [if_neg e]
      dsimp only
      by_cases h : 46 ≤ j ∧ j < 46 + 4 * n ∧ (j - 46) % 4 = 3 ∧ ¬ zbit (M (74 + 5 * k + 3)) ((j - 46) / 4) = 1
      · rw [if_pos h, if_pos ⟨h.1, by omega, h.2.2⟩]
      · rw [if_neg h, if_neg (fun z => h ⟨z.1, by omega, z.2.2⟩)]
theorem qGone_0 (M : Int → Int) (k : Int) : qGone M k 0 = M := by funext j; exact if_neg (by omega)
theorem qGone_OL {M : Int → Int} (h : zOL M) (k : Int) : ∀ n : Int, 0 ≤ n → n ≤ 7 → zOL (qGone M k n) := by
  have : ∀ m : Nat, (m : Int) ≤ 7 → zOL (qGone M k m) := by
    intro m
    induction m with
    | zero => intro _; rw [show ((0 : Nat) : Int) = 0 from rfl, qGone_0]; exact h
    | succ m ih =>
      intro hm
      have h1 := ih (by omega)
      rw [show ((m + 1 : Nat) : Int) = (m : Int) + 1 by omega, qGone_s _ _ (by omega)]
      split
      · exact h1
      · refine h1.put (by omega) (by omega) (fun _ _ => Or.inr ?_)
        rw [zBd_U ⟨by omega, by omega⟩ ⟨by decide, by decide⟩]
        exact ⟨by decide, by decide⟩
  intro n hn h7
  have := this n.toNat (by omega)
  rwa [Int.toNat_of_nonneg hn] at this
theorem qGone_out {M : Int → Int} {k n j : Int} (hj : j < 46 ∨ 46 + 4 * n ≤ j ∨ (j - 46) % 4 ≠ 3) : qGone M k n j = M j := if_neg (by omega)
/-- as they were, the first n -/
def qCame2 (M R : Int → Int) (n : Int) : Int → Int := fun j => if 46 ≤ j ∧ j < 46 + 4 * n ∧ (j - 46) % 4 = 3 then M j else R j
theorem qCame2_s (M R : Int → Int) {n : Int} (hn : 0 ≤ n) : zput (qCame2 M R n) (46 + 4 * n + 3) (M (46 + 4 * n + 3)) = qCame2 M R (n + 1) := by
  funext j
  unfold zput qCame2
  by_cases e : j = 46 + 4 * n + 3
  · rw [if_pos e, if_pos ⟨by omega, by omega, by omega⟩, e]
  · rw [if_neg e]
    by_cases h : 46 ≤ j ∧ j < 46 + 4 * n ∧ (j - 46) % 4 = 3
    · rw [if_pos h, if_pos ⟨h.1, by omega, h.2.2⟩]
    · rw [if_neg h, if_neg (by omega)]
theorem qCame2_0 (M R : Int → Int) : qCame2 M R 0 = R := by funext j; exact if_neg (by omega)
theorem qCame2_G (M : Int → Int) (k n : Int) : qCame2 M (qGone M k n) n = M := by
  funext j
  unfold qCame2
  by_cases h : 46 ≤ j ∧ j < 46 + 4 * n ∧ (j - 46) % 4 = 3
  · rw [if_pos h]
  · rw [if_neg h]; exact qGone_out (by omega)
theorem qCame2_M (M : Int → Int) (n : Int) : qCame2 M M n = M := by funext j; unfold qCame2; split <;> rfl
noncomputable def qMoved (M : Int → Int) (k i : Int) : Int := if qGo (if i = 0 then M else qGone M k (M 3)) k (M 5) (M 6) = 1 then M (74 + 5 * k + 2) else -5
theorem m_X12_movedHas {G : zG} {lay : zLay} {σ C0 : zMem} {nx x : Int} {k i : Int} (hR : RefL lay x) (hS : TxS lay C0) (hJ : zJs σ) (hM : zOL (σ 1)) (hk : 0 ≤ k ∧ k < 8) (hi : i = 0 ∨ i = 1) : zMM G 68 KX12_movedHas [zP x, zI k, zI i] lay (rC x σ C0) nx (0, 0) (zX' (some (zI (qMoved (σ 1) k i))) (zScr σ) lay C0 nx x) := by
  refine z_met' (L := [zP x, zI k, zI i, zU, zU, zU]) gX12_movedHas.1 rfl rfl (Nat.le_of_ble_eq_true rfl) rfl ?_
  have hm3 := hM.1.1.m3
  have h5 := hM.1.1.s 5 rfl (by omega)
  have h6 := hM.1.1.s 6 rfl (by omega)
  have w58 : ∀ (R : Int → Int) (y4 : zAV), (R = (if i = 0 then σ 1 else qGone (σ 1) k (σ 1 3))) → zW G KX12_movedHas 68 (zX' (some (zI (qMoved (σ 1) k i))) (zScr σ) lay C0 nx x) 58 [zP x, zI k, zI i, zI (qOuts (σ 1)), y4, zU] [] lay (rC x (zM σ R) C0) nx (0, 0) := by
    intro R y4 hR2
    have hRo : zOL R := by
      rw [hR2]
      split
      · exact hM
      · exact qGone_OL hM k _ hm3.1 hm3.2
    have hRj : ∀ j, (j < 46 ∨ 74 ≤ j) → R j = σ 1 j := by
      intro j hj
      rw [hR2]
      split
      · rfl
      · exact qGone_out (by omega)
    have hRM : qCame2 (σ 1) R (σ 1 3) = σ 1 := by
      rw [hR2]
      split
      · exact qCame2_M _ _
      · exact qCame2_G _ _ _
    have hval : qMoved (σ 1) k i = if qGo R k (σ 1 5) (σ 1 6) = 1 then σ 1 (74 + 5 * k + 2) else -5 := by rw [hR2]; rfl
    rw [hval]
    have hg := qGo_bd R k (σ 1 5) (σ 1 6)
    have w90 : ∀ (c : Int) (S : zMem), (c = if qGo R k (σ 1 5) (σ 1 6) = 1 then 1 else 0) → zScr (zM σ R) S → zW G KX12_movedHas 68 (zX' (some (zI (if qGo R k (σ 1 5) (σ 1 6) = 1 then σ 1 (74 + 5 * k + 2) else -5))) (zScr σ) lay C0 nx x) 90 [zP x, zI k, zI i, zI (qOuts (σ 1)), zI c, zI 0] [] lay (rC x S C0) nx (0, 0) := by
      intro c S hc hSc
      have hl : ∀ p : Int, 0 ≤ p → p ≤ σ 1 3 → zW G KX12_movedHas 68 (zX' (some (zI (if qGo R k (σ 1 5) (σ 1 6) = 1 then σ 1 (74 + 5 * k + 2) else -5))) (zScr σ) lay C0 nx x) 90 [zP x, zI k, zI i, zI (qOuts (σ 1)), zI c, zI p] [] lay (rC x (zM S (qCame2 (σ 1) R p)) C0) nx (0, 0) := by
        have e3 : ∀ p, qCame2 (σ 1) R p 3 = σ 1 3 := fun p => by unfold qCame2; rw [if_neg (by omega)]; exact hRj 3 (by omega)
        refine z_up (σ 1 3) ?_ ?_
        · rw [hRM]
          have hfin := hSc.m (σ 1)
          rw [zM_M, zM_self] at hfin
          have hc1 : ¬ c = 0 → qGo R k (σ 1 5) (σ 1 6) = 1 := fun z => Classical.byContradiction (fun q => z (by rw [hc, if_neg q]))
          have hc0 : c = 0 → ¬ qGo R k (σ 1 5) (σ 1 6) = 1 := fun z q => by rw [hc, if_pos q] at z; exact absurd z (by decide)
          refine z_il5 eX12_movedHas_90 ?_
          refine z_al0 eX12_movedHas_92 hR.ne ?_
          refine z_ra lX12_7 eX12_movedHas_93 rfl hR rfl ?_
          try rw [zM_n]
          refine z_iconst eX12_movedHas_96 ?_
          refine z_rl eX12_movedHas_97 hR (by decide) rfl rfl ⟨by omega, by omega⟩ ?_
          try rw [zM_1]
          refine z_icmp_ge (tgt := 135) eX12_movedHas_98 rfl ⟨⟨by omega, by omega⟩, ⟨by omega, by omega⟩⟩ (fun h98 => ?_) (fun h98 => (by exfalso; omega))
          refine z_il4 eX12_movedHas_135 ?_
          refine z_if_eq (tgt := 149) eX12_movedHas_137 rfl ⟨by rw [hc]; split <;> omega, by rw [hc]; split <;> omega⟩ (fun h137 => ?_) (fun h137 => ?_)
          · refine z_bipush eX12_movedHas_149 (by decide) ?_
            refine z_ireturn eX12_movedHas_151 rfl ?_
            first | (rw [if_pos (hc1 h137)]; exact zXe hfin rfl) | (rw [if_neg (hc0 h137)]; exact zXe hfin rfl) | fail
          · refine z_al0 eX12_movedHas_140 hR.ne ?_
            refine z_il1 eX12_movedHas_141 ?_
            refine z_iconst eX12_movedHas_142 ?_
            refine z_V2 eX12_movedHas_143 vX12_55 rfl rfl (Nat.le_of_ble_eq_true rfl) (Nat.le_of_ble_eq_true rfl) hR.x (m_X12_ofMotion hR ⟨by omega, by omega⟩ (by decide)) ?_
            try rw [zM_1]
            refine z_goto eX12_movedHas_146 (tgt := 151) rfl ?_
            refine z_ireturn eX12_movedHas_151 rfl ?_
            first | (rw [if_pos (hc1 h137)]; exact zXe hfin rfl) | (rw [if_neg (hc0 h137)]; exact zXe hfin rfl) | fail
        · intro p p0 p1 ih
          have hb := qOuts_B hM.1 (p := p) ⟨p0, by omega⟩
          have hU := (hM.1.1.U (p := p) ⟨p0, by omega⟩).2.2.2
          have hst := qCame2_s (σ 1) R p0
          refine z_il5 eX12_movedHas_90 ?_
          refine z_al0 eX12_movedHas_92 hR.ne ?_
          refine z_ra lX12_7 eX12_movedHas_93 rfl hR rfl ?_
          try rw [zM_n]
          refine z_iconst eX12_movedHas_96 ?_
          refine z_rl eX12_movedHas_97 hR (by decide) rfl rfl ⟨by omega, by omega⟩ ?_
          try rw [zM_1]
          rw [e3 p]
          refine z_icmp_ge (tgt := 135) eX12_movedHas_98 rfl ⟨⟨by omega, by omega⟩, ⟨by omega, by omega⟩⟩ (fun h98 => (by exfalso; omega)) (fun h98 => ?_)
          refine z_al0 eX12_movedHas_101 hR.ne ?_
          refine z_ra lX12_7 eX12_movedHas_102 rfl hR rfl ?_
          try rw [zM_n]
          refine z_bipush eX12_movedHas_105 (by decide) ?_
          refine z_iconst eX12_movedHas_107 ?_
          refine z_il5 eX12_movedHas_108 ?_
          refine z_imul eX12_movedHas_110 ?_
          refine z_iadd eX12_movedHas_111 ?_
          refine z_iconst eX12_movedHas_112 ?_
          refine z_iadd eX12_movedHas_113 ?_
          refine z_il3 eX12_movedHas_114 ?_
          refine z_il5 eX12_movedHas_115 ?_
          refine z_S2 eX12_movedHas_117 vX12_290 rfl rfl (Nat.le_of_ble_eq_true rfl) (Nat.le_of_ble_eq_true rfl) (m_X12_isOf ) ?_
          try rw [zM_1]
          refine z_ifb_eq (tgt := 127) eX12_movedHas_120 rfl (fun h120 => ?_) (fun h120 => ?_)
          · refine z_iconst eX12_movedHas_127 ?_
            refine z_rs eX12_movedHas_128 hR (by decide) rfl rfl ⟨by omega, by omega⟩ ?_
            first | rw [zM_s] | rw [zM_s0] | skip
            refine z_ii5 eX12_movedHas_129 (Nat.ne_of_beq_eq_false rfl) ?_
            refine z_goto eX12_movedHas_132 (tgt := 90) rfl ?_
            first | (have e1 : σ 1 (46 + 4 * p + 3) = 1 := (hb.mp h120).2; rw [e1] at hst; rw [hst]; exact ih) | (have e1 : σ 1 (46 + 4 * p + 3) = 0 := (by have := mt hb.mpr h120; omega); rw [e1] at hst; rw [hst]; exact ih) | fail
          · refine z_iconst eX12_movedHas_123 ?_
            refine z_goto eX12_movedHas_124 (tgt := 128) rfl ?_
            refine z_rs eX12_movedHas_128 hR (by decide) rfl rfl ⟨by omega, by omega⟩ ?_
            first | rw [zM_s] | rw [zM_s0] | skip
            refine z_ii5 eX12_movedHas_129 (Nat.ne_of_beq_eq_false rfl) ?_
            refine z_goto eX12_movedHas_132 (tgt := 90) rfl ?_
            first | (have e1 : σ 1 (46 + 4 * p + 3) = 1 := (hb.mp h120).2; rw [e1] at hst; rw [hst]; exact ih) | (have e1 : σ 1 (46 + 4 * p + 3) = 0 := (by have := mt hb.mpr h120; omega); rw [e1] at hst; rw [hst]; exact ih) | fail
      have h0 := hl 0 (by decide) hm3.1
      rw [qCame2_0, show zM S R = S by have := zM_self S; rwa [show S 1 = R from hSc.r1] at this] at h0
      exact h0
    have hgo := m_X12_goesIn (G := G) (nx := nx) (σ := zM σ R) (k := k) (s := σ 1 5) (h := σ 1 6) hR hS hJ hRo hk ⟨h5.1, by omega⟩ ⟨h6.1, by omega⟩
    rw [zM_1] at hgo
    refine z_al0 eX12_movedHas_58 hR.ne ?_
    refine z_il1 eX12_movedHas_59 ?_
    refine z_al0 eX12_movedHas_60 hR.ne ?_
    refine z_ra lX12_7 eX12_movedHas_61 rfl hR rfl ?_
    try rw [zM_n]
    refine z_iconst eX12_movedHas_64 ?_
    refine z_rl eX12_movedHas_65 hR (by decide) rfl rfl ⟨by omega, by omega⟩ ?_
    try rw [zM_1]
    rw [hRj 5 (by omega)]
    refine z_al0 eX12_movedHas_66 hR.ne ?_
    refine z_ra lX12_7 eX12_movedHas_67 rfl hR rfl ?_
    try rw [zM_n]
    refine z_bipush eX12_movedHas_70 (by decide) ?_
    refine z_rl eX12_movedHas_72 hR (by decide) rfl rfl ⟨by omega, by omega⟩ ?_
    try rw [zM_1]
    rw [hRj 6 (by omega)]
    refine z_V3x eX12_movedHas_73 vX12_294 rfl rfl (Nat.le_of_ble_eq_true rfl) (Nat.le_of_ble_eq_true rfl) hR.x (hgo ) (fun s73 hs73 => ?_)
    try rw [zM_1]
    refine z_iconst eX12_movedHas_76 ?_
    refine z_icmp_ne (tgt := 84) eX12_movedHas_77 rfl ⟨⟨by omega, by omega⟩, ⟨by omega, by omega⟩⟩ (fun h77 => ?_) (fun h77 => ?_)
    · refine z_iconst eX12_movedHas_84 ?_
      refine z_is4 eX12_movedHas_85 (Nat.ne_of_beq_eq_false rfl) ?_
      refine z_iconst eX12_movedHas_87 ?_
      refine z_is5 eX12_movedHas_88 (Nat.ne_of_beq_eq_false rfl) ?_
      first | (have e2 := h77; exact w90 1 s73 (by rw [if_pos e2]) hs73) | (have e2 := h77; exact w90 0 s73 (by rw [if_neg e2]) hs73) | fail
    · refine z_iconst eX12_movedHas_80 ?_
      refine z_goto eX12_movedHas_81 (tgt := 85) rfl ?_
      refine z_is4 eX12_movedHas_85 (Nat.ne_of_beq_eq_false rfl) ?_
      refine z_iconst eX12_movedHas_87 ?_
      refine z_is5 eX12_movedHas_88 (Nat.ne_of_beq_eq_false rfl) ?_
      first | (have e2 := h77; exact w90 1 s73 (by rw [if_pos e2]) hs73) | (have e2 := h77; exact w90 0 s73 (by rw [if_neg e2]) hs73) | fail
  by_cases hi0 : i = 0
  · have h1 := w58 (σ 1) (zI 0) (by rw [if_pos hi0])
    rw [zM_self] at h1
    by_cases hz : σ 1 3 = 0
    · skip
      refine z_al0 eX12_movedHas_0 hR.ne ?_
      refine z_V0 eX12_movedHas_1 vX12_280 rfl rfl (Nat.le_of_ble_eq_true rfl) (Nat.le_of_ble_eq_true rfl) hR.x (m_X12_outs hR hm3) ?_
      change zW _ _ _ _ _ _ (zI (qOuts (σ 1)) :: _) _ _ _ _
      refine z_is3 eX12_movedHas_4 (Nat.ne_of_beq_eq_false rfl) ?_
      refine z_iconst eX12_movedHas_5 ?_
      refine z_is4 eX12_movedHas_6 (Nat.ne_of_beq_eq_false rfl) ?_
      refine z_il4 eX12_movedHas_8 ?_
      refine z_al0 eX12_movedHas_10 hR.ne ?_
      refine z_ra lX12_7 eX12_movedHas_11 rfl hR rfl ?_
      refine z_iconst eX12_movedHas_14 ?_
      refine z_rl eX12_movedHas_15 hR (by decide) rfl rfl ⟨by omega, by omega⟩ ?_
      refine z_icmp_ge (tgt := 58) eX12_movedHas_16 rfl ⟨⟨by omega, by omega⟩, ⟨by omega, by omega⟩⟩ (fun h16 => ?_) (fun h16 => (by exfalso; omega))
      exact h1
    · skip
      refine z_al0 eX12_movedHas_0 hR.ne ?_
      refine z_V0 eX12_movedHas_1 vX12_280 rfl rfl (Nat.le_of_ble_eq_true rfl) (Nat.le_of_ble_eq_true rfl) hR.x (m_X12_outs hR hm3) ?_
      change zW _ _ _ _ _ _ (zI (qOuts (σ 1)) :: _) _ _ _ _
      refine z_is3 eX12_movedHas_4 (Nat.ne_of_beq_eq_false rfl) ?_
      refine z_iconst eX12_movedHas_5 ?_
      refine z_is4 eX12_movedHas_6 (Nat.ne_of_beq_eq_false rfl) ?_
      refine z_il4 eX12_movedHas_8 ?_
      refine z_al0 eX12_movedHas_10 hR.ne ?_
      refine z_ra lX12_7 eX12_movedHas_11 rfl hR rfl ?_
      refine z_iconst eX12_movedHas_14 ?_
      refine z_rl eX12_movedHas_15 hR (by decide) rfl rfl ⟨by omega, by omega⟩ ?_
      refine z_icmp_ge (tgt := 58) eX12_movedHas_16 rfl ⟨⟨by omega, by omega⟩, ⟨by omega, by omega⟩⟩ (fun h16 => (by exfalso; omega)) (fun h16 => ?_)
      refine z_il2 eX12_movedHas_19 ?_
      refine z_if_eq (tgt := 58) eX12_movedHas_20 rfl ⟨by omega, by omega⟩ (fun h20 => ?_) (fun h20 => (by exfalso; omega))
      exact h1
  · have hl : ∀ p : Int, 0 ≤ p → p ≤ σ 1 3 → zW G KX12_movedHas 68 (zX' (some (zI (qMoved (σ 1) k i))) (zScr σ) lay C0 nx x) 8 [zP x, zI k, zI i, zI (qOuts (σ 1)), zI p, zU] [] lay (rC x (zM σ (qGone (σ 1) k p)) C0) nx (0, 0) := by
      have e3 : ∀ p, qGone (σ 1) k p 3 = σ 1 3 := fun p => qGone_out (by omega)
      refine z_up (σ 1 3) ?_ ?_
      · skip
        refine z_il4 eX12_movedHas_8 ?_
        refine z_al0 eX12_movedHas_10 hR.ne ?_
        refine z_ra lX12_7 eX12_movedHas_11 rfl hR rfl ?_
        try rw [zM_n]
        refine z_iconst eX12_movedHas_14 ?_
        refine z_rl eX12_movedHas_15 hR (by decide) rfl rfl ⟨by omega, by omega⟩ ?_
        try rw [zM_1]
        rw [e3]
        refine z_icmp_ge (tgt := 58) eX12_movedHas_16 rfl ⟨⟨by omega, by omega⟩, ⟨by omega, by omega⟩⟩ (fun h16 => ?_) (fun h16 => (by exfalso; omega))
        exact w58 _ _ (by rw [if_neg hi0])
      · intro p p0 p1 ih
        have hst := qGone_s (σ 1) k p0
        have e4 : qGone (σ 1) k p (74 + 5 * k + 3) = σ 1 (74 + 5 * k + 3) := qGone_out (by omega)
        refine z_il4 eX12_movedHas_8 ?_
        refine z_al0 eX12_movedHas_10 hR.ne ?_
        refine z_ra lX12_7 eX12_movedHas_11 rfl hR rfl ?_
        try rw [zM_n]
        refine z_iconst eX12_movedHas_14 ?_
        refine z_rl eX12_movedHas_15 hR (by decide) rfl rfl ⟨by omega, by omega⟩ ?_
        try rw [zM_1]
        rw [e3]
        refine z_icmp_ge (tgt := 58) eX12_movedHas_16 rfl ⟨⟨by omega, by omega⟩, ⟨by omega, by omega⟩⟩ (fun h16 => (by exfalso; omega)) (fun h16 => ?_)
        refine z_il2 eX12_movedHas_19 ?_
        refine z_if_eq (tgt := 58) eX12_movedHas_20 rfl ⟨by omega, by omega⟩ (fun h20 => (by exfalso; omega)) (fun h20 => ?_)
        refine z_al0 eX12_movedHas_23 hR.ne ?_
        refine z_il1 eX12_movedHas_24 ?_
        refine z_iconst eX12_movedHas_25 ?_
        refine z_V2 eX12_movedHas_26 vX12_55 rfl rfl (Nat.le_of_ble_eq_true rfl) (Nat.le_of_ble_eq_true rfl) hR.x (m_X12_ofMotion hR ⟨by omega, by omega⟩ (by decide)) ?_
        try rw [zM_1]
        rw [e4]
        refine z_il4 eX12_movedHas_29 ?_
        refine z_S2 eX12_movedHas_31 vX12_290 rfl rfl (Nat.le_of_ble_eq_true rfl) (Nat.le_of_ble_eq_true rfl) (m_X12_isOf ) ?_
        try rw [zM_1]
        refine z_ifb_ne (tgt := 52) eX12_movedHas_34 rfl (fun h34 => ?_) (fun h34 => ?_)
        · refine z_ii4 eX12_movedHas_52 (Nat.ne_of_beq_eq_false rfl) ?_
          refine z_goto eX12_movedHas_55 (tgt := 8) rfl ?_
          first | (rw [if_pos h34] at hst; rw [← hst]; exact ih) | (rw [if_neg h34] at hst; rw [← hst]; exact ih) | fail
        · refine z_al0 eX12_movedHas_37 hR.ne ?_
          refine z_ra lX12_7 eX12_movedHas_38 rfl hR rfl ?_
          try rw [zM_n]
          refine z_bipush eX12_movedHas_41 (by decide) ?_
          refine z_iconst eX12_movedHas_43 ?_
          refine z_il4 eX12_movedHas_44 ?_
          refine z_imul eX12_movedHas_46 ?_
          refine z_iadd eX12_movedHas_47 ?_
          refine z_iconst eX12_movedHas_48 ?_
          refine z_iadd eX12_movedHas_49 ?_
          refine z_iconst eX12_movedHas_50 ?_
          refine z_rs eX12_movedHas_51 hR (by decide) rfl rfl ⟨by omega, by omega⟩ ?_
          first | rw [zM_s] | rw [zM_s0] | skip
          refine z_ii4 eX12_movedHas_52 (Nat.ne_of_beq_eq_false rfl) ?_
          refine z_goto eX12_movedHas_55 (tgt := 8) rfl ?_
          first | (rw [if_pos h34] at hst; rw [← hst]; exact ih) | (rw [if_neg h34] at hst; rw [← hst]; exact ih) | fail
    have h0 := hl 0 (by decide) hm3.1
    rw [qGone_0, zM_self] at h0
    refine z_al0 eX12_movedHas_0 hR.ne ?_
    refine z_V0 eX12_movedHas_1 vX12_280 rfl rfl (Nat.le_of_ble_eq_true rfl) (Nat.le_of_ble_eq_true rfl) hR.x (m_X12_outs hR hm3) ?_
    change zW _ _ _ _ _ _ (zI (qOuts (σ 1)) :: _) _ _ _ _
    refine z_is3 eX12_movedHas_4 (Nat.ne_of_beq_eq_false rfl) ?_
    refine z_iconst eX12_movedHas_5 ?_
    refine z_is4 eX12_movedHas_6 (Nat.ne_of_beq_eq_false rfl) ?_
    exact h0
