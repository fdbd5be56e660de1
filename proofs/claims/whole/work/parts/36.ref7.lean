/-! A member's line. -/
theorem zput_ne {M : Int → Int} {k v j : Int} (h : j ≠ k) : zput M k v j = M j := if_neg h
theorem zput_eq {M : Int → Int} {k v : Int} : zput M k v k = v := if_pos rfl
/-- a word that may stand: whether it does, the place -/
noncomputable def qOpt (T : Int → Int) (e : Int) (w : List Int) (a f : Int) : Int × Int :=
  if f = -1 then zif (qhas T e (qscan qbl T e a) w) (1, qscan qbl T e a + w.length) (0, qscan qbl T e a) else (0, a)
theorem qOpt_bd {T : Int → Int} {e a f : Int} {w : List Int} (h : 0 ≤ a ∧ a ≤ e) : ((qOpt T e w a f).1 = 0 ∨ (qOpt T e w a f).1 = 1) ∧ a ≤ (qOpt T e w a f).2 ∧ (qOpt T e w a f).2 ≤ e := by
  unfold qOpt
  split
  · have hb := qskip_bd (T := T) h.2
    generalize qscan qbl T e a = b at hb ⊢
    by_cases hw : qhas T e b w
    · have := qhas_bd hw hb.2
      rw [zif_t hw]; dsimp only; omega
    · rw [zif_f hw]; dsimp only; omega
  · dsimp only; omega
/-- the seats of a member's line -/
noncomputable def qSeats (T : Int → Int) (e a f : Int) : Int × Int × Int :=
  if f = -1 then zif (qhas T e (qscan qbl T e a) qw_seats) (qFig T e 0 20 (qscan qbl T e a + 5) (-1)) (1, qscan qbl T e a, -1) else (1, a, f)
theorem qSeats_bd {T : Int → Int} {e a f : Int} (h : qAt e a f) (he : e ≤ 400) (hT : ∀ k, 0 ≤ k → k < 400 → 0 ≤ T k) : qAt e (qSeats T e a f).2.1 (qSeats T e a f).2.2 ∧ ((qSeats T e a f).2.2 = -1 → 0 ≤ (qSeats T e a f).1 ∧ (qSeats T e a f).1 ≤ 20 ∧ f = -1) ∧ 0 ≤ (qSeats T e a f).1 ∧ (qSeats T e a f).1 ≤ 9999 := by
  obtain ⟨h1, h2, h3, h4⟩ := h
  unfold qSeats
  by_cases hf : f = -1
  · rw [if_pos hf]
    have hb := qskip_bd (T := T) h2
    generalize qscan qbl T e a = b at hb ⊢
    by_cases hw : qhas T e b qw_seats
    · rw [zif_t hw]
      have := qhas_bd hw hb.2
      dsimp only [qw_seats, List.length] at this
      obtain ⟨c1, c2, c3⟩ := qFig_bd (T := T) (lo := 0) (hi := 20) (a := b + 5) (f := -1) ⟨by omega, by omega, by decide, by decide⟩ he hT
      exact ⟨c1, fun z => ⟨(c2 z).1, (c2 z).2.1, hf⟩, c3⟩
    · rw [zif_f hw]
      dsimp only [qAt]
      exact ⟨⟨by omega, hb.2, by omega, by omega⟩, fun z => by omega, by decide, by decide⟩
  · rw [if_neg hf]
    dsimp only [qAt]
    exact ⟨⟨h1, h2, h3, h4⟩, fun z => absurd z hf, by decide, by decide⟩
/-- a member, written into the row -/
def qMem (M : Int → Int) (pl se hv iv : Int) : Int → Int :=
  zput (zput (zput (zput (zput M (46 + 4 * M 3 + 0) pl) (46 + 4 * M 3 + 1) se) (46 + 4 * M 3 + 2) hv) (46 + 4 * M 3 + 3) (1 - iv)) 3 (M 3 + 1)
noncomputable def qMemberLine (T : Int → Int) (e : Int) (M : Int → Int) (beg a : Int) : qLn :=
  let r := qAfter T e qw_at 0 7 a (if M 3 = 7 then beg else -1)
  let s := qSeats T e r.2.1 r.2.2
  let h := qOpt T e qw_hat s.2.1 s.2.2
  let i := qOpt T e qw_in h.2 s.2.2
  (if s.2.2 = -1 then qMem M r.1 s.1 h.1 i.1 else M, i.2, s.2.2)
theorem p_X12_memberLine {G : zG} {lay : zLay} {σ C0 : zMem} {nx x a f : Int} {beg : Int} (hR : RefL lay x) (hS : TxS lay C0) (hT : TxI σ) (ha : qAt (σ 0 10) a f) (hf : f = -1) (hbg : 0 ≤ beg ∧ beg ≤ 400) (hm : 0 ≤ σ 1 3 ∧ σ 1 3 ≤ 7) : zMM G 8 KX12_memberLine [zP x, zI beg] lay (rC x (pS σ a f) C0) nx (0, 0) (zR none lay (rC x (pS (zM σ (qMemberLine (rT σ) (σ 0 10) (σ 1) beg a).1) (qMemberLine (rT σ) (σ 0 10) (σ 1) beg a).2.1 (qMemberLine (rT σ) (σ 0 10) (σ 1) beg a).2.2) C0) nx) := by
  refine z_met' (L := [zP x, zI beg, zU, zU, zU, zU, zU]) gX12_memberLine.1 rfl rfl (Nat.le_of_ble_eq_true rfl) rfl ?_
  have h10 : σ 0 10 ≤ 400 := hT.2.2.1
  obtain ⟨h1, h2, h3, h4⟩ := ha
  subst hf
  dsimp only [qMemberLine]
  generalize hg0 : (if σ 1 3 = 7 then beg else -1) = g0
  have hg1 : -1 ≤ g0 ∧ g0 ≤ 400 ∧ (g0 = -1 → σ 1 3 ≤ 6) := by
    rw [← hg0]
    split <;> omega
  have hr := qAfter_bd (T := rT σ) (e := σ 0 10) (lo := 0) (hi := 7) (w := qw_at) (a := a) (f := g0) ⟨h1, h2, hg1.1, hg1.2.1⟩ h10 hT.p
  generalize hq : qAfter (rT σ) (σ 0 10) qw_at 0 7 a g0 = r at hr ⊢
  have hr0 := hr.1
  obtain ⟨⟨r1, r2, r3, r4⟩, r5, r6, r7⟩ := hr
  have hs := qSeats_bd (T := rT σ) hr0 h10 hT.p
  generalize hp : qSeats (rT σ) (σ 0 10) r.2.1 r.2.2 = s at hs ⊢
  obtain ⟨⟨s1, s2, s3, s4⟩, s5, s6, s7⟩ := hs
  have hh := qOpt_bd (T := rT σ) (e := σ 0 10) (a := s.2.1) (f := s.2.2) (w := qw_hat) ⟨s1, s2⟩
  generalize hj : qOpt (rT σ) (σ 0 10) qw_hat s.2.1 s.2.2 = h at hh ⊢
  have hi := qOpt_bd (T := rT σ) (e := σ 0 10) (a := h.2) (f := s.2.2) (w := qw_in) ⟨by omega, hh.2.2⟩
  generalize hl : qOpt (rT σ) (σ 0 10) qw_in h.2 s.2.2 = i at hi ⊢
  obtain ⟨i1, i2, i3⟩ := hi
  obtain ⟨j1, j2, j3⟩ := hh
  have w5 : zW G KX12_memberLine 8 (zR none lay (rC x (pS (zM σ (if s.2.2 = -1 then qMem (σ 1) r.1 s.1 h.1 i.1 else σ 1)) i.2 s.2.2) C0) nx) 103 [zP x, zI beg, zI r.1, zI s.1, zI h.1, zI i.1, zU] [] lay (rC x (pS σ i.2 s.2.2) C0) nx (0, 0) := by
    refine z_al0 eX12_memberLine_103 hR.ne ?_
    refine z_rg (j := 12) lX12_25 eX12_memberLine_104 rfl hR rfl rfl ?_
    rw [pS_12]
    refine z_iconst eX12_memberLine_107 ?_
    refine z_icmp_eq (tgt := 112) eX12_memberLine_108 rfl ⟨⟨by omega, by omega⟩, ⟨by omega, by omega⟩⟩ (fun h108 => ?_) (fun h108 => ?_)
    · refine z_bipush eX12_memberLine_112 (by decide) ?_
      refine z_iconst eX12_memberLine_114 ?_
      refine z_al0 eX12_memberLine_115 hR.ne ?_
      refine z_ra lX12_7 eX12_memberLine_116 rfl hR rfl ?_
      refine z_iconst eX12_memberLine_119 ?_
      refine z_rl eX12_memberLine_120 hR (by decide) rfl rfl ⟨by omega, by omega⟩ ?_
      first | rw [pS_1M] | rw [pS_1] | skip
      refine z_imul eX12_memberLine_121 ?_
      refine z_iadd eX12_memberLine_122 ?_
      refine z_is6 eX12_memberLine_123 (Nat.ne_of_beq_eq_false rfl) ?_
      refine z_al0 eX12_memberLine_125 hR.ne ?_
      refine z_ra lX12_7 eX12_memberLine_126 rfl hR rfl ?_
      refine z_il6 eX12_memberLine_129 ?_
      refine z_iconst eX12_memberLine_131 ?_
      refine z_iadd eX12_memberLine_132 ?_
      refine z_il2 eX12_memberLine_133 ?_
      refine z_rs eX12_memberLine_134 hR (by decide) rfl rfl ⟨by omega, by omega⟩ ?_
      first | rw [pS_sM] | rw [pS_s1] | skip
      refine z_al0 eX12_memberLine_135 hR.ne ?_
      refine z_ra lX12_7 eX12_memberLine_136 rfl hR rfl ?_
      refine z_il6 eX12_memberLine_139 ?_
      refine z_iconst eX12_memberLine_141 ?_
      refine z_iadd eX12_memberLine_142 ?_
      refine z_il3 eX12_memberLine_143 ?_
      refine z_rs eX12_memberLine_144 hR (by decide) rfl rfl ⟨by omega, by omega⟩ ?_
      first | rw [pS_sM] | rw [pS_s1] | skip
      refine z_al0 eX12_memberLine_145 hR.ne ?_
      refine z_ra lX12_7 eX12_memberLine_146 rfl hR rfl ?_
      refine z_il6 eX12_memberLine_149 ?_
      refine z_iconst eX12_memberLine_151 ?_
      refine z_iadd eX12_memberLine_152 ?_
      refine z_il4 eX12_memberLine_153 ?_
      refine z_if_eq (tgt := 162) eX12_memberLine_155 rfl ⟨by omega, by omega⟩ (fun h155 => ?_) (fun h155 => ?_)
      · refine z_iconst eX12_memberLine_162 ?_
        refine z_rs eX12_memberLine_163 hR (by decide) rfl rfl ⟨by omega, by omega⟩ ?_
        first | rw [pS_sM] | rw [pS_s1] | skip
        refine z_al0 eX12_memberLine_164 hR.ne ?_
        refine z_ra lX12_7 eX12_memberLine_165 rfl hR rfl ?_
        refine z_il6 eX12_memberLine_168 ?_
        refine z_iconst eX12_memberLine_170 ?_
        refine z_iadd eX12_memberLine_171 ?_
        refine z_il5 eX12_memberLine_172 ?_
        refine z_if_eq (tgt := 181) eX12_memberLine_174 rfl ⟨by omega, by omega⟩ (fun h174 => ?_) (fun h174 => ?_)
        · refine z_iconst eX12_memberLine_181 ?_
          refine z_rs eX12_memberLine_182 hR (by decide) rfl rfl ⟨by omega, by omega⟩ ?_
          first | rw [pS_sM] | rw [pS_s1] | skip
          refine z_al0 eX12_memberLine_183 hR.ne ?_
          refine z_ra lX12_7 eX12_memberLine_184 rfl hR rfl ?_
          refine z_iconst eX12_memberLine_187 ?_
          refine z_dup2 eX12_memberLine_188 (Nat.ne_of_beq_eq_false rfl) (Nat.ne_of_beq_eq_false rfl) ?_
          refine z_rl eX12_memberLine_189 hR (by decide) rfl rfl ⟨by omega, by omega⟩ ?_
          first | rw [pS_1M] | rw [pS_1] | skip
          rw [zput_ne (by omega), zput_ne (by omega), zput_ne (by omega), zput_ne (by omega)]
          refine z_iconst eX12_memberLine_190 ?_
          refine z_iadd eX12_memberLine_191 ?_
          refine z_rs eX12_memberLine_192 hR (by decide) rfl rfl ⟨by omega, by omega⟩ ?_
          first | rw [pS_sM] | rw [pS_s1] | skip
          refine z_return eX12_memberLine_193 rfl ?_
          rw [if_pos h108]
          unfold qMem
          first | rw [show h.1 = 0 by omega] | rw [show h.1 = 1 by omega]
          first | rw [show i.1 = 0 by omega] | rw [show i.1 = 1 by omega]
          exact ⟨rfl, rfl, rfl, rfl⟩
        · refine z_iconst eX12_memberLine_177 ?_
          refine z_goto eX12_memberLine_178 (tgt := 182) rfl ?_
          refine z_rs eX12_memberLine_182 hR (by decide) rfl rfl ⟨by omega, by omega⟩ ?_
          first | rw [pS_sM] | rw [pS_s1] | skip
          refine z_al0 eX12_memberLine_183 hR.ne ?_
          refine z_ra lX12_7 eX12_memberLine_184 rfl hR rfl ?_
          refine z_iconst eX12_memberLine_187 ?_
          refine z_dup2 eX12_memberLine_188 (Nat.ne_of_beq_eq_false rfl) (Nat.ne_of_beq_eq_false rfl) ?_
          refine z_rl eX12_memberLine_189 hR (by decide) rfl rfl ⟨by omega, by omega⟩ ?_
          first | rw [pS_1M] | rw [pS_1] | skip
          rw [zput_ne (by omega), zput_ne (by omega), zput_ne (by omega), zput_ne (by omega)]
          refine z_iconst eX12_memberLine_190 ?_
          refine z_iadd eX12_memberLine_191 ?_
          refine z_rs eX12_memberLine_192 hR (by decide) rfl rfl ⟨by omega, by omega⟩ ?_
          first | rw [pS_sM] | rw [pS_s1] | skip
          refine z_return eX12_memberLine_193 rfl ?_
          rw [if_pos h108]
          unfold qMem
          first | rw [show h.1 = 0 by omega] | rw [show h.1 = 1 by omega]
          first | rw [show i.1 = 0 by omega] | rw [show i.1 = 1 by omega]
          exact ⟨rfl, rfl, rfl, rfl⟩
      · refine z_iconst eX12_memberLine_158 ?_
        refine z_goto eX12_memberLine_159 (tgt := 163) rfl ?_
        refine z_rs eX12_memberLine_163 hR (by decide) rfl rfl ⟨by omega, by omega⟩ ?_
        first | rw [pS_sM] | rw [pS_s1] | skip
        refine z_al0 eX12_memberLine_164 hR.ne ?_
        refine z_ra lX12_7 eX12_memberLine_165 rfl hR rfl ?_
        refine z_il6 eX12_memberLine_168 ?_
        refine z_iconst eX12_memberLine_170 ?_
        refine z_iadd eX12_memberLine_171 ?_
        refine z_il5 eX12_memberLine_172 ?_
        refine z_if_eq (tgt := 181) eX12_memberLine_174 rfl ⟨by omega, by omega⟩ (fun h174 => ?_) (fun h174 => ?_)
        · refine z_iconst eX12_memberLine_181 ?_
          refine z_rs eX12_memberLine_182 hR (by decide) rfl rfl ⟨by omega, by omega⟩ ?_
          first | rw [pS_sM] | rw [pS_s1] | skip
          refine z_al0 eX12_memberLine_183 hR.ne ?_
          refine z_ra lX12_7 eX12_memberLine_184 rfl hR rfl ?_
          refine z_iconst eX12_memberLine_187 ?_
          refine z_dup2 eX12_memberLine_188 (Nat.ne_of_beq_eq_false rfl) (Nat.ne_of_beq_eq_false rfl) ?_
          refine z_rl eX12_memberLine_189 hR (by decide) rfl rfl ⟨by omega, by omega⟩ ?_
          first | rw [pS_1M] | rw [pS_1] | skip
          rw [zput_ne (by omega), zput_ne (by omega), zput_ne (by omega), zput_ne (by omega)]
          refine z_iconst eX12_memberLine_190 ?_
          refine z_iadd eX12_memberLine_191 ?_
          refine z_rs eX12_memberLine_192 hR (by decide) rfl rfl ⟨by omega, by omega⟩ ?_
          first | rw [pS_sM] | rw [pS_s1] | skip
          refine z_return eX12_memberLine_193 rfl ?_
          rw [if_pos h108]
          unfold qMem
          first | rw [show h.1 = 0 by omega] | rw [show h.1 = 1 by omega]
          first | rw [show i.1 = 0 by omega] | rw [show i.1 = 1 by omega]
          exact ⟨rfl, rfl, rfl, rfl⟩
        · refine z_iconst eX12_memberLine_177 ?_
          refine z_goto eX12_memberLine_178 (tgt := 182) rfl ?_
          refine z_rs eX12_memberLine_182 hR (by decide) rfl rfl ⟨by omega, by omega⟩ ?_
          first | rw [pS_sM] | rw [pS_s1] | skip
          refine z_al0 eX12_memberLine_183 hR.ne ?_
          refine z_ra lX12_7 eX12_memberLine_184 rfl hR rfl ?_
          refine z_iconst eX12_memberLine_187 ?_
          refine z_dup2 eX12_memberLine_188 (Nat.ne_of_beq_eq_false rfl) (Nat.ne_of_beq_eq_false rfl) ?_
          refine z_rl eX12_memberLine_189 hR (by decide) rfl rfl ⟨by omega, by omega⟩ ?_
          first | rw [pS_1M] | rw [pS_1] | skip
          rw [zput_ne (by omega), zput_ne (by omega), zput_ne (by omega), zput_ne (by omega)]
          refine z_iconst eX12_memberLine_190 ?_
          refine z_iadd eX12_memberLine_191 ?_
          refine z_rs eX12_memberLine_192 hR (by decide) rfl rfl ⟨by omega, by omega⟩ ?_
          first | rw [pS_sM] | rw [pS_s1] | skip
          refine z_return eX12_memberLine_193 rfl ?_
          rw [if_pos h108]
          unfold qMem
          first | rw [show h.1 = 0 by omega] | rw [show h.1 = 1 by omega]
          first | rw [show i.1 = 0 by omega] | rw [show i.1 = 1 by omega]
          exact ⟨rfl, rfl, rfl, rfl⟩
    · refine z_return eX12_memberLine_111 rfl ?_
      rw [if_neg h108, zM_self]
      exact ⟨rfl, rfl, rfl, rfl⟩
  have w4 : zW G KX12_memberLine 8 (zR none lay (rC x (pS (zM σ (if s.2.2 = -1 then qMem (σ 1) r.1 s.1 h.1 i.1 else σ 1)) i.2 s.2.2) C0) nx) 79 [zP x, zI beg, zI r.1, zI s.1, zI h.1, zU, zU] [] lay (rC x (pS σ h.2 s.2.2) C0) nx (0, 0) := by
    have hbd := qskip_bd (T := rT σ) j3
    generalize hb : qscan qbl (rT σ) (σ 0 10) h.2 = b at hbd
    unfold qOpt at hl
    rw [hb] at hl
    refine z_al0 eX12_memberLine_79 hR.ne ?_
    refine z_rg (j := 12) lX12_25 eX12_memberLine_80 rfl hR rfl rfl ?_
    rw [pS_12]
    refine z_iconst eX12_memberLine_83 ?_
    refine z_icmp_ne (tgt := 100) eX12_memberLine_84 rfl ⟨⟨by omega, by omega⟩, ⟨by omega, by omega⟩⟩ (fun h84 => ?_) (fun h84 => ?_)
    · refine z_iconst eX12_memberLine_100 ?_
      refine z_is5 eX12_memberLine_101 (Nat.ne_of_beq_eq_false rfl) ?_
      first | (rw [if_pos h84, zif_t h93] at hl; subst hl; exact w5) | (rw [if_pos h84, zif_f h93] at hl; subst hl; exact w5) | (rw [if_neg h84] at hl; subst hl; exact w5)
    · refine z_al0 eX12_memberLine_87 hR.ne ?_
      refine z_ldcS (t := 77) eX12_memberLine_88 rfl rfl rfl (by rw [(hS 77 _ rfl).1]) ?_
      refine z_V1 eX12_memberLine_90 vX12_101 rfl rfl (Nat.le_of_ble_eq_true rfl) (Nat.le_of_ble_eq_true rfl) hR.x (p_has hR hS (t := 77) (w := qw_in) (n := 2) rfl rfl hT ⟨by omega, by omega⟩ (b := b) (by first | exact hb | exact hbb | assumption)) ?_
      refine z_ifh_eq (tgt := 100) eX12_memberLine_93 rfl (fun h93 => ?_) (fun h93 => ?_)
      · refine z_iconst eX12_memberLine_100 ?_
        refine z_is5 eX12_memberLine_101 (Nat.ne_of_beq_eq_false rfl) ?_
        first | (rw [if_pos h84, zif_t h93] at hl; subst hl; exact w5) | (rw [if_pos h84, zif_f h93] at hl; subst hl; exact w5) | (rw [if_neg h84] at hl; subst hl; exact w5)
      · refine z_iconst eX12_memberLine_96 ?_
        refine z_goto eX12_memberLine_97 (tgt := 101) rfl ?_
        refine z_is5 eX12_memberLine_101 (Nat.ne_of_beq_eq_false rfl) ?_
        first | (rw [if_pos h84, zif_t h93] at hl; subst hl; exact w5) | (rw [if_pos h84, zif_f h93] at hl; subst hl; exact w5) | (rw [if_neg h84] at hl; subst hl; exact w5)
  have w3 : zW G KX12_memberLine 8 (zR none lay (rC x (pS (zM σ (if s.2.2 = -1 then qMem (σ 1) r.1 s.1 h.1 i.1 else σ 1)) i.2 s.2.2) C0) nx) 55 [zP x, zI beg, zI r.1, zI s.1, zU, zU, zU] [] lay (rC x (pS σ s.2.1 s.2.2) C0) nx (0, 0) := by
    have hbd := qskip_bd (T := rT σ) s2
    generalize hb : qscan qbl (rT σ) (σ 0 10) s.2.1 = b at hbd
    unfold qOpt at hj
    rw [hb] at hj
    clear hl
    refine z_al0 eX12_memberLine_55 hR.ne ?_
    refine z_rg (j := 12) lX12_25 eX12_memberLine_56 rfl hR rfl rfl ?_
    rw [pS_12]
    refine z_iconst eX12_memberLine_59 ?_
    refine z_icmp_ne (tgt := 76) eX12_memberLine_60 rfl ⟨⟨by omega, by omega⟩, ⟨by omega, by omega⟩⟩ (fun h60 => ?_) (fun h60 => ?_)
    · refine z_iconst eX12_memberLine_76 ?_
      refine z_is4 eX12_memberLine_77 (Nat.ne_of_beq_eq_false rfl) ?_
      first | (rw [if_pos h60, zif_t h69] at hj; subst hj; exact w4) | (rw [if_pos h60, zif_f h69] at hj; subst hj; exact w4) | (rw [if_neg h60] at hj; subst hj; exact w4)
    · refine z_al0 eX12_memberLine_63 hR.ne ?_
      refine z_ldcS (t := 64) eX12_memberLine_64 rfl rfl rfl (by rw [(hS 64 _ rfl).1]) ?_
      refine z_V1 eX12_memberLine_66 vX12_101 rfl rfl (Nat.le_of_ble_eq_true rfl) (Nat.le_of_ble_eq_true rfl) hR.x (p_has hR hS (t := 64) (w := qw_hat) (n := 3) rfl rfl hT ⟨by omega, by omega⟩ (b := b) (by first | exact hb | exact hbb | assumption)) ?_
      refine z_ifh_eq (tgt := 76) eX12_memberLine_69 rfl (fun h69 => ?_) (fun h69 => ?_)
      · refine z_iconst eX12_memberLine_76 ?_
        refine z_is4 eX12_memberLine_77 (Nat.ne_of_beq_eq_false rfl) ?_
        first | (rw [if_pos h60, zif_t h69] at hj; subst hj; exact w4) | (rw [if_pos h60, zif_f h69] at hj; subst hj; exact w4) | (rw [if_neg h60] at hj; subst hj; exact w4)
      · refine z_iconst eX12_memberLine_72 ?_
        refine z_goto eX12_memberLine_73 (tgt := 77) rfl ?_
        refine z_is4 eX12_memberLine_77 (Nat.ne_of_beq_eq_false rfl) ?_
        first | (rw [if_pos h60, zif_t h69] at hj; subst hj; exact w4) | (rw [if_pos h60, zif_f h69] at hj; subst hj; exact w4) | (rw [if_neg h60] at hj; subst hj; exact w4)
  have w2 : zW G KX12_memberLine 8 (zR none lay (rC x (pS (zM σ (if s.2.2 = -1 then qMem (σ 1) r.1 s.1 h.1 i.1 else σ 1)) i.2 s.2.2) C0) nx) 26 [zP x, zI beg, zI r.1, zU, zU, zU, zU] [] lay (rC x (pS σ r.2.1 r.2.2) C0) nx (0, 0) := by
    have hbd := qskip_bd (T := rT σ) r2
    generalize hb : qscan qbl (rT σ) (σ 0 10) r.2.1 = b at hbd
    unfold qSeats at hp
    rw [hb] at hp
    clear hl hj
    refine z_al0 eX12_memberLine_26 hR.ne ?_
    refine z_rg (j := 12) lX12_25 eX12_memberLine_27 rfl hR rfl rfl ?_
    rw [pS_12]
    refine z_iconst eX12_memberLine_30 ?_
    refine z_icmp_ne (tgt := 53) eX12_memberLine_31 rfl ⟨⟨by omega, by omega⟩, ⟨by omega, by omega⟩⟩ (fun h31 => ?_) (fun h31 => ?_)
    · refine z_iconst eX12_memberLine_53 ?_
      first | rw [if_pos h31, zif_t h40] at hp | rw [if_pos h31, zif_f h40] at hp | rw [if_neg h31] at hp
      refine z_is3 eX12_memberLine_54 (Nat.ne_of_beq_eq_false rfl) ?_
      first | (subst hp; rw [h31]; exact w3) | (subst hp; rw [h31] at *; exact w3) | (subst hp; exact w3)
    · refine z_al0 eX12_memberLine_34 hR.ne ?_
      refine z_ldcS (t := 69) eX12_memberLine_35 rfl rfl rfl (by rw [(hS 69 _ rfl).1]) ?_
      refine z_V1 eX12_memberLine_37 vX12_101 rfl rfl (Nat.le_of_ble_eq_true rfl) (Nat.le_of_ble_eq_true rfl) hR.x (p_has hR hS (t := 69) (w := qw_seats) (n := 5) rfl rfl hT ⟨by omega, by omega⟩ (b := b) (by first | exact hb | exact hbb | assumption)) ?_
      refine z_ifh_eq (tgt := 53) eX12_memberLine_40 rfl (fun h40 => ?_) (fun h40 => ?_)
      · refine z_iconst eX12_memberLine_53 ?_
        first | rw [if_pos h31, zif_t h40] at hp | rw [if_pos h31, zif_f h40] at hp | rw [if_neg h31] at hp
        refine z_is3 eX12_memberLine_54 (Nat.ne_of_beq_eq_false rfl) ?_
        first | (subst hp; rw [h31]; exact w3) | (subst hp; rw [h31] at *; exact w3) | (subst hp; exact w3)
      · refine z_al0 eX12_memberLine_43 hR.ne ?_
        refine z_iconst eX12_memberLine_44 ?_
        refine z_bipush eX12_memberLine_45 (by decide) ?_
        refine z_V2 eX12_memberLine_47 vX12_105 rfl rfl (Nat.le_of_ble_eq_true rfl) (Nat.le_of_ble_eq_true rfl) hR.x (p_X12_figures hR hT ⟨by omega, qhas_bd h40 hbd.2⟩ ⟨by omega, by omega⟩ ⟨by omega, by omega⟩ ⟨by omega, by omega⟩) ?_
        refine z_goto eX12_memberLine_50 (tgt := 54) rfl ?_
        first | rw [if_pos h31, zif_t h40] at hp | rw [if_pos h31, zif_f h40] at hp | rw [if_neg h31] at hp
        refine z_is3 eX12_memberLine_54 (Nat.ne_of_beq_eq_false rfl) ?_
        first | (subst hp; rw [h31]; exact w3) | (subst hp; rw [h31] at *; exact w3) | (subst hp; exact w3)
  refine z_al0 eX12_memberLine_0 hR.ne ?_
  refine z_ra lX12_7 eX12_memberLine_1 rfl hR rfl ?_
  refine z_iconst eX12_memberLine_4 ?_
  refine z_rl eX12_memberLine_5 hR (by decide) rfl rfl ⟨by omega, by omega⟩ ?_
  first | rw [pS_1M] | rw [pS_1] | skip
  refine z_bipush eX12_memberLine_6 (by decide) ?_
  refine z_icmp_ne (tgt := 16) eX12_memberLine_8 rfl ⟨⟨by omega, by omega⟩, ⟨by omega, by omega⟩⟩ (fun h8 => ?_) (fun h8 => ?_)
  · try simp only [if_pos True.intro, if_true]
    refine z_al0 eX12_memberLine_16 hR.ne ?_
    refine z_ldcS (t := 76) eX12_memberLine_17 rfl rfl rfl (by rw [(hS 76 _ rfl).1]) ?_
    refine z_iconst eX12_memberLine_19 ?_
    refine z_bipush eX12_memberLine_20 (by decide) ?_
    refine z_V3 eX12_memberLine_22 vX12_109 rfl rfl (Nat.le_of_ble_eq_true rfl) (Nat.le_of_ble_eq_true rfl) hR.x (p_X12_after (t := 76) (w := qw_at) hR hS rfl hT (by first | assumption | exact ⟨by omega, by omega, by omega, by omega⟩) ⟨by omega, by omega⟩ ⟨by omega, by omega⟩) ?_
    refine z_is2 eX12_memberLine_25 (Nat.ne_of_beq_eq_false rfl) ?_
    first | (rw [if_pos h8] at hg0; subst hg0; rw [hq]; exact w2) | (rw [if_neg h8] at hg0; subst hg0; rw [hq]; exact w2)
  · refine z_al0 eX12_memberLine_11 hR.ne ?_
    refine z_il1 eX12_memberLine_12 ?_
    refine z_V1v eX12_memberLine_13 vX12_97 rfl rfl (Nat.le_of_ble_eq_true rfl) (Nat.le_of_ble_eq_true rfl) hR.x (p_X12_wrong hR ⟨by omega, by omega⟩) ?_
    try simp only [if_pos True.intro, if_true]
    refine z_al0 eX12_memberLine_16 hR.ne ?_
    refine z_ldcS (t := 76) eX12_memberLine_17 rfl rfl rfl (by rw [(hS 76 _ rfl).1]) ?_
    refine z_iconst eX12_memberLine_19 ?_
    refine z_bipush eX12_memberLine_20 (by decide) ?_
    refine z_V3 eX12_memberLine_22 vX12_109 rfl rfl (Nat.le_of_ble_eq_true rfl) (Nat.le_of_ble_eq_true rfl) hR.x (p_X12_after (t := 76) (w := qw_at) hR hS rfl hT (by first | assumption | exact ⟨by omega, by omega, by omega, by omega⟩) ⟨by omega, by omega⟩ ⟨by omega, by omega⟩) ?_
    refine z_is2 eX12_memberLine_25 (Nat.ne_of_beq_eq_false rfl) ?_
    first | (rw [if_pos h8] at hg0; subst hg0; rw [hq]; exact w2) | (rw [if_neg h8] at hg0; subst hg0; rw [hq]; exact w2)
