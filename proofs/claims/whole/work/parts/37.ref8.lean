/-! A motion's line. -/
noncomputable def qFor (T : Int → Int) (e m mover a f : Int) : Int × Int × Int :=
  if f = -1 then zif (qhas T e (qscan qbl T e a) qw_for) (if (qRow T e m 1 (qscan qbl T e a + 3) (-1)).2.2 = -1 then zors (fun p => zshl (T ((qRow T e m 1 (qscan qbl T e a + 3) (-1)).1 + p) - 48) p) m else 0, (qRow T e m 1 (qscan qbl T e a + 3) (-1)).2) (zshl 1 mover, qscan qbl T e a, -1) else (zshl 1 mover, a, f)
/-- a motion, written into the row -/
def qMot (M : Int → Int) (mv tk wo fr : Int) : Int → Int :=
  zput (zput (zput (zput (zput (zput M (74 + 5 * M 4 + 0) mv) (74 + 5 * M 4 + 1) tk) (74 + 5 * M 4 + 2) wo) (74 + 5 * M 4 + 3) fr) (74 + 5 * M 4 + 4) 0) 4 (M 4 + 1)
noncomputable def qMotionLine (T : Int → Int) (e : Int) (M : Int → Int) (beg a : Int) : qLn :=
  let r := qAfter T e qw_of 0 (M 3 - 1) a (if M 4 = 8 then beg else -1)
  let s := qAfter T e qw_takes 1 9 r.2.1 r.2.2
  let t := qAfter T e qw_worth 0 99 s.2.1 s.2.2
  let w := qFor T e (M 3) r.1 t.2.1 t.2.2
  (if w.2.2 = -1 then qMot M r.1 s.1 t.1 w.1 else M, w.2)
theorem p_X12_motionLine {G : zG} {lay : zLay} {σ C0 : zMem} {nx x a f : Int} {beg : Int} (hR : RefL lay x) (hS : TxS lay C0) (hT : TxI σ) (ha : qAt (σ 0 10) a f) (hf : f = -1) (hbg : 0 ≤ beg ∧ beg ≤ 400) (hm : 0 ≤ σ 1 3 ∧ σ 1 3 ≤ 7) (hm4 : 0 ≤ σ 1 4 ∧ σ 1 4 ≤ 8) : zMM G 8 KX12_motionLine [zP x, zI beg] lay (rC x (pS σ a f) C0) nx (0, 0) (zR none lay (rC x (pS (zM σ (qMotionLine (rT σ) (σ 0 10) (σ 1) beg a).1) (qMotionLine (rT σ) (σ 0 10) (σ 1) beg a).2.1 (qMotionLine (rT σ) (σ 0 10) (σ 1) beg a).2.2) C0) nx) := by
  refine z_met' (L := [zP x, zI beg, zU, zU, zU, zU, zU, zU]) gX12_motionLine.1 rfl rfl (Nat.le_of_ble_eq_true rfl) rfl ?_
  have h10 : σ 0 10 ≤ 400 := hT.2.2.1
  obtain ⟨h1, h2, h3, h4⟩ := ha
  subst hf
  dsimp only [qMotionLine]
  generalize hg0 : (if σ 1 4 = 8 then beg else -1) = g0
  have hg1 : -1 ≤ g0 ∧ g0 ≤ 400 ∧ (g0 = -1 → σ 1 4 ≤ 7) := by
    rw [← hg0]
    split <;> omega
  have hr := qAfter_bd (T := rT σ) (e := σ 0 10) (lo := 0) (hi := σ 1 3 - 1) (w := qw_of) (a := a) (f := g0) ⟨h1, h2, hg1.1, hg1.2.1⟩ h10 hT.p
  generalize hq : qAfter (rT σ) (σ 0 10) qw_of 0 (σ 1 3 - 1) a g0 = r at hr ⊢
  have hr0 := hr.1
  obtain ⟨⟨r1, r2, r3, r4⟩, r5, r6, r7⟩ := hr
  have hs := qAfter_bd (lo := 1) (hi := 9) (w := qw_takes) hr0 h10 hT.p
  generalize hp : qAfter (rT σ) (σ 0 10) qw_takes 1 9 r.2.1 r.2.2 = s at hs ⊢
  have hs0 := hs.1
  obtain ⟨⟨s1, s2, s3, s4⟩, s5, s6, s7⟩ := hs
  have ht := qAfter_bd (lo := 0) (hi := 99) (w := qw_worth) hs0 h10 hT.p
  generalize hj : qAfter (rT σ) (σ 0 10) qw_worth 0 99 s.2.1 s.2.2 = t at ht ⊢
  obtain ⟨⟨t1, t2, t3, t4⟩, t5, t6, t7⟩ := ht
  have hbd := qskip_bd (T := rT σ) t2
  have hw0 : (qFor (rT σ) (σ 0 10) (σ 1 3) r.1 t.2.1 t.2.2).2.2 = -1 → t.2.2 = -1 := by
    unfold qFor
    split
    · intro _; assumption
    · intro z; exact z
  have hw1 : -1 ≤ (qFor (rT σ) (σ 0 10) (σ 1 3) r.1 t.2.1 t.2.2).2.2 ∧ (qFor (rT σ) (σ 0 10) (σ 1 3) r.1 t.2.1 t.2.2).2.2 ≤ 400 := by
    unfold qFor
    split
    · by_cases z : qhas (rT σ) (σ 0 10) (qscan qbl (rT σ) (σ 0 10) t.2.1) qw_for
      · have z2 := qhas_bd z hbd.2
        dsimp only [qw_for, List.length] at z2
        rw [zif_t z]
        have := (qRow_bd (T := rT σ) (many := σ 1 3) (most := 1) (a := qscan qbl (rT σ) (σ 0 10) t.2.1 + 3) (f := -1) ⟨by omega, z2, by decide, by decide⟩ h10 hm.1).1
        exact ⟨this.2.2.1, this.2.2.2⟩
      · rw [zif_f z]
        dsimp only; omega
    · dsimp only; omega
  generalize hl : qFor (rT σ) (σ 0 10) (σ 1 3) r.1 t.2.1 t.2.2 = w at hw0 hw1 ⊢
  have w5 : ∀ u v : zAV, zW G KX12_motionLine 8 (zR none lay (rC x (pS (zM σ (if w.2.2 = -1 then qMot (σ 1) r.1 s.1 t.1 w.1 else σ 1)) w.2.1 w.2.2) C0) nx) 139 [zP x, zI beg, zI r.1, zI s.1, zI t.1, zI w.1, u, v] [] lay (rC x (pS σ w.2.1 w.2.2) C0) nx (0, 0) := by
    intro u v
    refine z_al0 eX12_motionLine_139 hR.ne ?_
    refine z_rg (j := 12) lX12_25 eX12_motionLine_140 rfl hR rfl rfl ?_
    rw [pS_12]
    refine z_iconst eX12_motionLine_143 ?_
    refine z_icmp_eq (tgt := 148) eX12_motionLine_144 rfl ⟨⟨by omega, by omega⟩, ⟨by omega, by omega⟩⟩ (fun h144 => ?_) (fun h144 => ?_)
    · refine z_bipush eX12_motionLine_148 (by decide) ?_
      refine z_iconst eX12_motionLine_150 ?_
      refine z_al0 eX12_motionLine_151 hR.ne ?_
      refine z_ra lX12_7 eX12_motionLine_152 rfl hR rfl ?_
      refine z_iconst eX12_motionLine_155 ?_
      refine z_rl eX12_motionLine_156 hR (by decide) rfl rfl ⟨by omega, by omega⟩ ?_
      first | rw [pS_1M] | rw [pS_1] | skip
      refine z_imul eX12_motionLine_157 ?_
      refine z_iadd eX12_motionLine_158 ?_
      refine z_is6 eX12_motionLine_159 (Nat.ne_of_beq_eq_false rfl) ?_
      refine z_al0 eX12_motionLine_161 hR.ne ?_
      refine z_ra lX12_7 eX12_motionLine_162 rfl hR rfl ?_
      refine z_il6 eX12_motionLine_165 ?_
      refine z_iconst eX12_motionLine_167 ?_
      refine z_iadd eX12_motionLine_168 ?_
      refine z_il2 eX12_motionLine_169 ?_
      refine z_rs eX12_motionLine_170 hR (by decide) rfl rfl ⟨by omega, by omega⟩ ?_
      first | rw [pS_sM] | rw [pS_s1] | skip
      refine z_al0 eX12_motionLine_171 hR.ne ?_
      refine z_ra lX12_7 eX12_motionLine_172 rfl hR rfl ?_
      refine z_il6 eX12_motionLine_175 ?_
      refine z_iconst eX12_motionLine_177 ?_
      refine z_iadd eX12_motionLine_178 ?_
      refine z_il3 eX12_motionLine_179 ?_
      refine z_rs eX12_motionLine_180 hR (by decide) rfl rfl ⟨by omega, by omega⟩ ?_
      first | rw [pS_sM] | rw [pS_s1] | skip
      refine z_al0 eX12_motionLine_181 hR.ne ?_
      refine z_ra lX12_7 eX12_motionLine_182 rfl hR rfl ?_
      refine z_il6 eX12_motionLine_185 ?_
      refine z_iconst eX12_motionLine_187 ?_
      refine z_iadd eX12_motionLine_188 ?_
      refine z_il4 eX12_motionLine_189 ?_
      refine z_rs eX12_motionLine_191 hR (by decide) rfl rfl ⟨by omega, by omega⟩ ?_
      first | rw [pS_sM] | rw [pS_s1] | skip
      refine z_al0 eX12_motionLine_192 hR.ne ?_
      refine z_ra lX12_7 eX12_motionLine_193 rfl hR rfl ?_
      refine z_il6 eX12_motionLine_196 ?_
      refine z_iconst eX12_motionLine_198 ?_
      refine z_iadd eX12_motionLine_199 ?_
      refine z_il5 eX12_motionLine_200 ?_
      refine z_rs eX12_motionLine_202 hR (by decide) rfl rfl ⟨by omega, by omega⟩ ?_
      first | rw [pS_sM] | rw [pS_s1] | skip
      refine z_al0 eX12_motionLine_203 hR.ne ?_
      refine z_ra lX12_7 eX12_motionLine_204 rfl hR rfl ?_
      refine z_il6 eX12_motionLine_207 ?_
      refine z_iconst eX12_motionLine_209 ?_
      refine z_iadd eX12_motionLine_210 ?_
      refine z_iconst eX12_motionLine_211 ?_
      refine z_rs eX12_motionLine_212 hR (by decide) rfl rfl ⟨by omega, by omega⟩ ?_
      first | rw [pS_sM] | rw [pS_s1] | skip
      refine z_al0 eX12_motionLine_213 hR.ne ?_
      refine z_ra lX12_7 eX12_motionLine_214 rfl hR rfl ?_
      refine z_iconst eX12_motionLine_217 ?_
      refine z_dup2 eX12_motionLine_218 (Nat.ne_of_beq_eq_false rfl) (Nat.ne_of_beq_eq_false rfl) ?_
      refine z_rl eX12_motionLine_219 hR (by decide) rfl rfl ⟨by omega, by omega⟩ ?_
      first | rw [pS_1M] | rw [pS_1] | skip
      rw [zput_ne (by omega), zput_ne (by omega), zput_ne (by omega), zput_ne (by omega), zput_ne (by omega)]
      refine z_iconst eX12_motionLine_220 ?_
      refine z_iadd eX12_motionLine_221 ?_
      refine z_rs eX12_motionLine_222 hR (by decide) rfl rfl ⟨by omega, by omega⟩ ?_
      first | rw [pS_sM] | rw [pS_s1] | skip
      refine z_return eX12_motionLine_223 rfl ?_
      rw [if_pos h144]
      exact ⟨rfl, rfl, rfl, rfl⟩
    · refine z_return eX12_motionLine_147 rfl ?_
      rw [if_neg h144, zM_self]
      exact ⟨rfl, rfl, rfl, rfl⟩
  have w4 : zW G KX12_motionLine 8 (zR none lay (rC x (pS (zM σ (if w.2.2 = -1 then qMot (σ 1) r.1 s.1 t.1 w.1 else σ 1)) w.2.1 w.2.2) C0) nx) 58 [zP x, zI beg, zI r.1, zI s.1, zI t.1, zI (zshl 1 r.1), zU, zU] [] lay (rC x (pS σ t.2.1 t.2.2) C0) nx (0, 0) := by
    unfold qFor at hl
    generalize hb : qscan qbl (rT σ) (σ 0 10) t.2.1 = b at hbd hl
    have w3 : t.2.2 = -1 → qhas (rT σ) (σ 0 10) b qw_for → zW G KX12_motionLine 8 (zR none lay (rC x (pS (zM σ (if w.2.2 = -1 then qMot (σ 1) r.1 s.1 t.1 w.1 else σ 1)) w.2.1 w.2.2) C0) nx) 86 [zP x, zI beg, zI r.1, zI s.1, zI t.1, zI (zshl 1 r.1), zU, zU] [zI (qRow (rT σ) (σ 0 10) (σ 1 3) 1 (b + 3) t.2.2).1] lay (rC x (pS σ (qRow (rT σ) (σ 0 10) (σ 1 3) 1 (b + 3) t.2.2).2.1 (qRow (rT σ) (σ 0 10) (σ 1 3) 1 (b + 3) t.2.2).2.2) C0) nx (0, 0) := by
      intro h63 h72
      rw [if_pos h63, zif_t h72] at hl
      rw [h63]
      have z2 := qhas_bd h72 hbd.2
      dsimp only [qw_for, List.length] at z2
      have hv := qRow_bd (T := rT σ) (many := σ 1 3) (most := 1) (a := b + 3) (f := -1) ⟨by omega, z2, by decide, by decide⟩ h10 hm.1
      generalize qRow (rT σ) (σ 0 10) (σ 1 3) 1 (b + 3) (-1) = v at hl hv ⊢
      obtain ⟨⟨v1, v2, v3, v4⟩, v5, v6, v7⟩ := hv
      by_cases hf : v.2.2 = -1
      · have v8 := (v5 hf).2.2.2
        rw [if_pos hf] at hl
        have hn : ∀ n : Int, 0 ≤ n → n ≤ σ 1 3 → zW G KX12_motionLine 8 (zR none lay (rC x (pS (zM σ (if w.2.2 = -1 then qMot (σ 1) r.1 s.1 t.1 w.1 else σ 1)) w.2.1 w.2.2) C0) nx) 94 [zP x, zI beg, zI r.1, zI s.1, zI t.1, zI (zors (fun p => zshl (rT σ (v.1 + p) - 48) p) n), zI v.1, zI n] [] lay (rC x (pS σ v.2.1 v.2.2) C0) nx (0, 0) := by
          refine z_up (σ 1 3) ?_ ?_
          · skip
            refine z_il7 eX12_motionLine_94 ?_
            refine z_al0 eX12_motionLine_96 hR.ne ?_
            refine z_ra lX12_7 eX12_motionLine_97 rfl hR rfl ?_
            refine z_iconst eX12_motionLine_100 ?_
            refine z_rl eX12_motionLine_101 hR (by decide) rfl rfl ⟨by omega, by omega⟩ ?_
            first | rw [pS_1M] | rw [pS_1] | skip
            refine z_icmp_ge (tgt := 139) eX12_motionLine_102 rfl ⟨⟨by omega, by omega⟩, ⟨by omega, by omega⟩⟩ (fun h102 => ?_) (fun h102 => (by exfalso; omega))
            subst hl; exact w5 _ _
          · intro n h0 h1 ih
            refine z_il7 eX12_motionLine_94 ?_
            refine z_al0 eX12_motionLine_96 hR.ne ?_
            refine z_ra lX12_7 eX12_motionLine_97 rfl hR rfl ?_
            refine z_iconst eX12_motionLine_100 ?_
            refine z_rl eX12_motionLine_101 hR (by decide) rfl rfl ⟨by omega, by omega⟩ ?_
            first | rw [pS_1M] | rw [pS_1] | skip
            refine z_icmp_ge (tgt := 139) eX12_motionLine_102 rfl ⟨⟨by omega, by omega⟩, ⟨by omega, by omega⟩⟩ (fun h102 => (by exfalso; omega)) (fun h102 => ?_)
            refine z_al0 eX12_motionLine_105 hR.ne ?_
            refine z_rg (j := 12) lX12_25 eX12_motionLine_106 rfl hR rfl rfl ?_
            rw [pS_12]
            refine z_iconst eX12_motionLine_109 ?_
            refine z_icmp_ne (tgt := 139) eX12_motionLine_110 rfl ⟨⟨by omega, by omega⟩, ⟨by omega, by omega⟩⟩ (fun h110 => (by exfalso; omega)) (fun h110 => ?_)
            refine z_il5 eX12_motionLine_113 ?_
            refine z_al0 eX12_motionLine_115 hR.ne ?_
            refine z_il6 eX12_motionLine_116 ?_
            refine z_il7 eX12_motionLine_118 ?_
            refine z_iadd eX12_motionLine_120 ?_
            refine z_V1 eX12_motionLine_121 vX12_77 rfl rfl (Nat.le_of_ble_eq_true rfl) (Nat.le_of_ble_eq_true rfl) hR.x (p_X12_letter hR hT ⟨by omega, by omega⟩) ?_
            refine z_bipush eX12_motionLine_124 (by decide) ?_
            refine z_isub eX12_motionLine_126 ?_
            refine z_il7 eX12_motionLine_127 ?_
            refine z_ishl eX12_motionLine_129 ?_
            refine z_ior eX12_motionLine_130 ?_
            refine z_is5 eX12_motionLine_131 (Nat.ne_of_beq_eq_false rfl) ?_
            refine z_ii7 eX12_motionLine_133 (Nat.ne_of_beq_eq_false rfl) ?_
            refine z_goto eX12_motionLine_136 (tgt := 94) rfl ?_
            rw [zors_s _ h0] at ih; exact ih
        refine z_is6 eX12_motionLine_86 (Nat.ne_of_beq_eq_false rfl) ?_
        refine z_iconst eX12_motionLine_88 ?_
        refine z_is5 eX12_motionLine_89 (Nat.ne_of_beq_eq_false rfl) ?_
        refine z_iconst eX12_motionLine_91 ?_
        refine z_is7 eX12_motionLine_92 (Nat.ne_of_beq_eq_false rfl) ?_
        exact hn 0 (by omega) (by omega)
      · rw [if_neg hf] at hl
        refine z_is6 eX12_motionLine_86 (Nat.ne_of_beq_eq_false rfl) ?_
        refine z_iconst eX12_motionLine_88 ?_
        refine z_is5 eX12_motionLine_89 (Nat.ne_of_beq_eq_false rfl) ?_
        refine z_iconst eX12_motionLine_91 ?_
        refine z_is7 eX12_motionLine_92 (Nat.ne_of_beq_eq_false rfl) ?_
        refine z_il7 eX12_motionLine_94 ?_
        refine z_al0 eX12_motionLine_96 hR.ne ?_
        refine z_ra lX12_7 eX12_motionLine_97 rfl hR rfl ?_
        refine z_iconst eX12_motionLine_100 ?_
        refine z_rl eX12_motionLine_101 hR (by decide) rfl rfl ⟨by omega, by omega⟩ ?_
        first | rw [pS_1M] | rw [pS_1] | skip
        refine z_icmp_ge (tgt := 139) eX12_motionLine_102 rfl ⟨⟨by omega, by omega⟩, ⟨by omega, by omega⟩⟩ (fun h102 => ?_) (fun h102 => ?_)
        · subst hl; exact w5 _ _
        · refine z_al0 eX12_motionLine_105 hR.ne ?_
          refine z_rg (j := 12) lX12_25 eX12_motionLine_106 rfl hR rfl rfl ?_
          rw [pS_12]
          refine z_iconst eX12_motionLine_109 ?_
          refine z_icmp_ne (tgt := 139) eX12_motionLine_110 rfl ⟨⟨by omega, by omega⟩, ⟨by omega, by omega⟩⟩ (fun h110 => ?_) (fun h110 => absurd h110 hf)
          subst hl; exact w5 _ _
    refine z_al0 eX12_motionLine_58 hR.ne ?_
    refine z_rg (j := 12) lX12_25 eX12_motionLine_59 rfl hR rfl rfl ?_
    rw [pS_12]
    refine z_iconst eX12_motionLine_62 ?_
    refine z_icmp_ne (tgt := 139) eX12_motionLine_63 rfl ⟨⟨by omega, by omega⟩, ⟨by omega, by omega⟩⟩ (fun h63 => ?_) (fun h63 => ?_)
    · first | (rw [if_pos h63, zif_f h72] at hl; subst hl; rw [h63]; exact w5 _ _) | (rw [if_neg h63] at hl; subst hl; exact w5 _ _)
    · refine z_al0 eX12_motionLine_66 hR.ne ?_
      refine z_ldcS (t := 80) eX12_motionLine_67 rfl rfl rfl (by rw [(hS 80 _ rfl).1]) ?_
      refine z_V1 eX12_motionLine_69 vX12_101 rfl rfl (Nat.le_of_ble_eq_true rfl) (Nat.le_of_ble_eq_true rfl) hR.x (p_has hR hS (t := 80) (w := qw_for) (n := 3) rfl rfl hT ⟨by omega, by omega⟩ (b := b) (by first | exact hb | exact hbb | assumption)) ?_
      refine z_ifh_eq (tgt := 139) eX12_motionLine_72 rfl (fun h72 => ?_) (fun h72 => ?_)
      · first | (rw [if_pos h63, zif_f h72] at hl; subst hl; rw [h63]; exact w5 _ _) | (rw [if_neg h63] at hl; subst hl; exact w5 _ _)
      · refine z_al0 eX12_motionLine_75 hR.ne ?_
        refine z_al0 eX12_motionLine_76 hR.ne ?_
        refine z_ra lX12_7 eX12_motionLine_77 rfl hR rfl ?_
        refine z_iconst eX12_motionLine_80 ?_
        refine z_rl eX12_motionLine_81 hR (by decide) rfl rfl ⟨by omega, by omega⟩ ?_
        first | rw [pS_1M] | rw [pS_1] | skip
        refine z_iconst eX12_motionLine_82 ?_
        refine z_V2 eX12_motionLine_83 vX12_126 rfl rfl (Nat.le_of_ble_eq_true rfl) (Nat.le_of_ble_eq_true rfl) hR.x (p_X12_row hR hT ⟨by omega, qhas_bd h72 hbd.2⟩ ⟨by omega, by omega⟩ ⟨by omega, by omega⟩ ⟨by omega, by omega⟩) ?_
        exact w3 h63 h72
  refine z_al0 eX12_motionLine_0 hR.ne ?_
  refine z_ra lX12_7 eX12_motionLine_1 rfl hR rfl ?_
  refine z_iconst eX12_motionLine_4 ?_
  refine z_rl eX12_motionLine_5 hR (by decide) rfl rfl ⟨by omega, by omega⟩ ?_
  first | rw [pS_1M] | rw [pS_1] | skip
  refine z_bipush eX12_motionLine_6 (by decide) ?_
  refine z_icmp_ne (tgt := 16) eX12_motionLine_8 rfl ⟨⟨by omega, by omega⟩, ⟨by omega, by omega⟩⟩ (fun h8 => ?_) (fun h8 => ?_)
  · first | (rw [if_pos h8] at hg0; subst hg0) | (rw [if_neg h8] at hg0; subst hg0)
    try simp only [if_true]
    refine z_al0 eX12_motionLine_16 hR.ne ?_
    refine z_ldcS (t := 78) eX12_motionLine_17 rfl rfl rfl (by rw [(hS 78 _ rfl).1]) ?_
    refine z_iconst eX12_motionLine_19 ?_
    refine z_al0 eX12_motionLine_20 hR.ne ?_
    refine z_ra lX12_7 eX12_motionLine_21 rfl hR rfl ?_
    refine z_iconst eX12_motionLine_24 ?_
    refine z_rl eX12_motionLine_25 hR (by decide) rfl rfl ⟨by omega, by omega⟩ ?_
    first | rw [pS_1M] | rw [pS_1] | skip
    refine z_iconst eX12_motionLine_26 ?_
    refine z_isub eX12_motionLine_27 ?_
    refine z_V3 eX12_motionLine_28 vX12_109 rfl rfl (Nat.le_of_ble_eq_true rfl) (Nat.le_of_ble_eq_true rfl) hR.x (p_X12_after (t := 78) (w := qw_of) hR hS rfl hT ⟨h1, h2, by omega, by omega⟩ ⟨by omega, by omega⟩ ⟨by omega, by omega⟩) ?_
    refine z_is2 eX12_motionLine_31 (Nat.ne_of_beq_eq_false rfl) ?_
    rw [hq]
    refine z_al0 eX12_motionLine_32 hR.ne ?_
    refine z_ldcS (t := 79) eX12_motionLine_33 rfl rfl rfl (by rw [(hS 79 _ rfl).1]) ?_
    refine z_iconst eX12_motionLine_35 ?_
    refine z_bipush eX12_motionLine_36 (by decide) ?_
    refine z_V3 eX12_motionLine_38 vX12_109 rfl rfl (Nat.le_of_ble_eq_true rfl) (Nat.le_of_ble_eq_true rfl) hR.x (p_X12_after (t := 79) (w := qw_takes) hR hS rfl hT (by first | assumption | exact ⟨by omega, by omega, by omega, by omega⟩) ⟨by omega, by omega⟩ ⟨by omega, by omega⟩) ?_
    refine z_is3 eX12_motionLine_41 (Nat.ne_of_beq_eq_false rfl) ?_
    rw [hp]
    refine z_al0 eX12_motionLine_42 hR.ne ?_
    refine z_ldcS (t := 73) eX12_motionLine_43 rfl rfl rfl (by rw [(hS 73 _ rfl).1]) ?_
    refine z_iconst eX12_motionLine_45 ?_
    refine z_bipush eX12_motionLine_46 (by decide) ?_
    refine z_V3 eX12_motionLine_48 vX12_109 rfl rfl (Nat.le_of_ble_eq_true rfl) (Nat.le_of_ble_eq_true rfl) hR.x (p_X12_after (t := 73) (w := qw_worth) hR hS rfl hT (by first | assumption | exact ⟨by omega, by omega, by omega, by omega⟩) ⟨by omega, by omega⟩ ⟨by omega, by omega⟩) ?_
    refine z_is4 eX12_motionLine_51 (Nat.ne_of_beq_eq_false rfl) ?_
    rw [hj]
    refine z_iconst eX12_motionLine_53 ?_
    refine z_il2 eX12_motionLine_54 ?_
    refine z_ishl eX12_motionLine_55 ?_
    refine z_is5 eX12_motionLine_56 (Nat.ne_of_beq_eq_false rfl) ?_
    exact w4
  · refine z_al0 eX12_motionLine_11 hR.ne ?_
    refine z_il1 eX12_motionLine_12 ?_
    refine z_V1v eX12_motionLine_13 vX12_97 rfl rfl (Nat.le_of_ble_eq_true rfl) (Nat.le_of_ble_eq_true rfl) hR.x (p_X12_wrong hR ⟨by omega, by omega⟩) ?_
    first | (rw [if_pos h8] at hg0; subst hg0) | (rw [if_neg h8] at hg0; subst hg0)
    try simp only [if_true]
    refine z_al0 eX12_motionLine_16 hR.ne ?_
    refine z_ldcS (t := 78) eX12_motionLine_17 rfl rfl rfl (by rw [(hS 78 _ rfl).1]) ?_
    refine z_iconst eX12_motionLine_19 ?_
    refine z_al0 eX12_motionLine_20 hR.ne ?_
    refine z_ra lX12_7 eX12_motionLine_21 rfl hR rfl ?_
    refine z_iconst eX12_motionLine_24 ?_
    refine z_rl eX12_motionLine_25 hR (by decide) rfl rfl ⟨by omega, by omega⟩ ?_
    first | rw [pS_1M] | rw [pS_1] | skip
    refine z_iconst eX12_motionLine_26 ?_
    refine z_isub eX12_motionLine_27 ?_
    refine z_V3 eX12_motionLine_28 vX12_109 rfl rfl (Nat.le_of_ble_eq_true rfl) (Nat.le_of_ble_eq_true rfl) hR.x (p_X12_after (t := 78) (w := qw_of) hR hS rfl hT ⟨h1, h2, by omega, by omega⟩ ⟨by omega, by omega⟩ ⟨by omega, by omega⟩) ?_
    refine z_is2 eX12_motionLine_31 (Nat.ne_of_beq_eq_false rfl) ?_
    rw [hq]
    refine z_al0 eX12_motionLine_32 hR.ne ?_
    refine z_ldcS (t := 79) eX12_motionLine_33 rfl rfl rfl (by rw [(hS 79 _ rfl).1]) ?_
    refine z_iconst eX12_motionLine_35 ?_
    refine z_bipush eX12_motionLine_36 (by decide) ?_
    refine z_V3 eX12_motionLine_38 vX12_109 rfl rfl (Nat.le_of_ble_eq_true rfl) (Nat.le_of_ble_eq_true rfl) hR.x (p_X12_after (t := 79) (w := qw_takes) hR hS rfl hT (by first | assumption | exact ⟨by omega, by omega, by omega, by omega⟩) ⟨by omega, by omega⟩ ⟨by omega, by omega⟩) ?_
    refine z_is3 eX12_motionLine_41 (Nat.ne_of_beq_eq_false rfl) ?_
    rw [hp]
    refine z_al0 eX12_motionLine_42 hR.ne ?_
    refine z_ldcS (t := 73) eX12_motionLine_43 rfl rfl rfl (by rw [(hS 73 _ rfl).1]) ?_
    refine z_iconst eX12_motionLine_45 ?_
    refine z_bipush eX12_motionLine_46 (by decide) ?_
    refine z_V3 eX12_motionLine_48 vX12_109 rfl rfl (Nat.le_of_ble_eq_true rfl) (Nat.le_of_ble_eq_true rfl) hR.x (p_X12_after (t := 73) (w := qw_worth) hR hS rfl hT (by first | assumption | exact ⟨by omega, by omega, by omega, by omega⟩) ⟨by omega, by omega⟩ ⟨by omega, by omega⟩) ?_
    refine z_is4 eX12_motionLine_51 (Nat.ne_of_beq_eq_false rfl) ?_
    rw [hj]
    refine z_iconst eX12_motionLine_53 ?_
    refine z_il2 eX12_motionLine_54 ?_
    refine z_ishl eX12_motionLine_55 ?_
    refine z_is5 eX12_motionLine_56 (Nat.ne_of_beq_eq_false rfl) ?_
    exact w4
