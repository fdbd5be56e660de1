/-! Any line of the coast. -/
noncomputable def qCoastLine (T : Int → Int) (e : Int) (M : Int → Int) (a : Int) : qLn :=
  let b := qscan qbl T e a
  zif (qhas T e b qw_member) (qMemberLine T e M b (b + 6)) (zif (qhas T e b qw_motion) (qMotionLine T e M b (b + 6)) (zif (qhas T e b qw_sky) (qSkyLine T e M (b + 3) (-1)) (zif (qhas T e b qw_now) (if (qSky T e (b + 3) (-1)).2.2 = -1 then zput M 5 (qSky T e (b + 3) (-1)).1 else M, (qSky T e (b + 3) (-1)).2) (zif (qhas T e b qw_place) (qPlaceLine T e M (b + 5) (-1)) (zif (qhas T e b qw_quorum) (qTells T e M 8 0 8 (b + 6) (-1)) (zif (qhas T e b qw_aye) (qTells T e M 9 1 20 (b + 3) (-1)) (zif (qhas T e b qw_wet) (qTells T e M 10 0 20 (b + 3) (-1)) (zif (qhas T e b qw_paper) (qPaperLine T e M (b + 5) (-1)) (zif (qhas T e b qw_hour) (qTells T e M 6 0 11 (b + 4) (-1)) (zif (qhas T e b qw_day) (qTells T e M 7 0 999 (b + 3) (-1)) (M, b, b)))))))))))
theorem p_X12_coastLine {G : zG} {lay : zLay} {σ C0 : zMem} {nx x a f : Int} (hR : RefL lay x) (hS : TxS lay C0) (hT : TxI σ) (hB : σ 0 9 = -1) (ha : qAt (σ 0 10) a f) (hf : f = -1) (hm : 0 ≤ σ 1 3 ∧ σ 1 3 ≤ 7) (hm4 : 0 ≤ σ 1 4 ∧ σ 1 4 ≤ 8) (hs : ∀ t, 0 ≤ t → t < 12 → zin (σ 1 (114 + t))) : zMM G 9 KX12_coastLine [zP x] lay (rC x (pS σ a f) C0) nx (0, 0) (zR none lay (rC x (pS (zM σ (qCoastLine (rT σ) (σ 0 10) (σ 1) a).1) (qCoastLine (rT σ) (σ 0 10) (σ 1) a).2.1 (qCoastLine (rT σ) (σ 0 10) (σ 1) a).2.2) C0) nx) := by
  refine z_met' (L := [zP x, zU, zU]) gX12_coastLine.1 rfl rfl (Nat.le_of_ble_eq_true rfl) rfl ?_
  have h10 : σ 0 10 ≤ 400 := hT.2.2.1
  obtain ⟨h1, h2, h3, h4⟩ := ha
  subst hf
  have hbd := qskip_bd (T := rT σ) h2
  have hbb := qskip_idem (T := rT σ) (e := σ 0 10) (a := a)
  dsimp only [qCoastLine]
  generalize hb : qscan qbl (rT σ) (σ 0 10) a = b at hbd hbb ⊢
  refine z_al0 eX12_coastLine_0 hR.ne ?_
  refine z_V0 eX12_coastLine_1 vX12_94 rfl rfl (Nat.le_of_ble_eq_true rfl) (Nat.le_of_ble_eq_true rfl) hR.x (p_X12_here hR hT ⟨by omega, by omega⟩) ?_
  rw [hb]
  refine z_is1 eX12_coastLine_4 (Nat.ne_of_beq_eq_false rfl) ?_
  refine z_al0 eX12_coastLine_5 hR.ne ?_
  refine z_ldcS (t := 67) eX12_coastLine_6 rfl rfl rfl (by rw [(hS 67 _ rfl).1]) ?_
  refine z_V1 eX12_coastLine_8 vX12_101 rfl rfl (Nat.le_of_ble_eq_true rfl) (Nat.le_of_ble_eq_true rfl) hR.x (p_has hR hS (t := 67) (w := qw_member) (n := 6) rfl rfl hT ⟨by omega, by omega⟩ (b := b) (by first | exact hb | exact hbb | assumption)) ?_
  refine z_ifh_eq (tgt := 22) eX12_coastLine_11 rfl (fun h11 => ?_) (fun h11 => ?_)
  · rw [zif_f h11]
    refine z_al0 eX12_coastLine_22 hR.ne ?_
    refine z_ldcS (t := 72) eX12_coastLine_23 rfl rfl rfl (by rw [(hS 72 _ rfl).1]) ?_
    refine z_V1 eX12_coastLine_25 vX12_101 rfl rfl (Nat.le_of_ble_eq_true rfl) (Nat.le_of_ble_eq_true rfl) hR.x (p_has hR hS (t := 72) (w := qw_motion) (n := 6) rfl rfl hT ⟨by omega, by omega⟩ (b := b) (by first | exact hb | exact hbb | assumption)) ?_
    refine z_ifh_eq (tgt := 39) eX12_coastLine_28 rfl (fun h28 => ?_) (fun h28 => ?_)
    · rw [zif_f h28]
      refine z_al0 eX12_coastLine_39 hR.ne ?_
      refine z_ldcS (t := 70) eX12_coastLine_40 rfl rfl rfl (by rw [(hS 70 _ rfl).1]) ?_
      refine z_V1 eX12_coastLine_42 vX12_101 rfl rfl (Nat.le_of_ble_eq_true rfl) (Nat.le_of_ble_eq_true rfl) hR.x (p_has hR hS (t := 70) (w := qw_sky) (n := 3) rfl rfl hT ⟨by omega, by omega⟩ (b := b) (by first | exact hb | exact hbb | assumption)) ?_
      refine z_ifh_eq (tgt := 55) eX12_coastLine_45 rfl (fun h45 => ?_) (fun h45 => ?_)
      · rw [zif_f h45]
        refine z_al0 eX12_coastLine_55 hR.ne ?_
        refine z_ldcS (t := 86) eX12_coastLine_56 rfl rfl rfl (by rw [(hS 86 _ rfl).1]) ?_
        refine z_V1 eX12_coastLine_58 vX12_101 rfl rfl (Nat.le_of_ble_eq_true rfl) (Nat.le_of_ble_eq_true rfl) hR.x (p_has hR hS (t := 86) (w := qw_now) (n := 3) rfl rfl hT ⟨by omega, by omega⟩ (b := b) (by first | exact hb | exact hbb | assumption)) ?_
        refine z_ifh_eq (tgt := 87) eX12_coastLine_61 rfl (fun h61 => ?_) (fun h61 => ?_)
        · rw [zif_f h61]
          refine z_al0 eX12_coastLine_87 hR.ne ?_
          refine z_ldcS (t := 87) eX12_coastLine_88 rfl rfl rfl (by rw [(hS 87 _ rfl).1]) ?_
          refine z_V1 eX12_coastLine_90 vX12_101 rfl rfl (Nat.le_of_ble_eq_true rfl) (Nat.le_of_ble_eq_true rfl) hR.x (p_has hR hS (t := 87) (w := qw_place) (n := 5) rfl rfl hT ⟨by omega, by omega⟩ (b := b) (by first | exact hb | exact hbb | assumption)) ?_
          refine z_ifh_eq (tgt := 103) eX12_coastLine_93 rfl (fun h93 => ?_) (fun h93 => ?_)
          · rw [zif_f h93]
            refine z_al0 eX12_coastLine_103 hR.ne ?_
            refine z_ldcS (t := 88) eX12_coastLine_104 rfl rfl rfl (by rw [(hS 88 _ rfl).1]) ?_
            refine z_V1 eX12_coastLine_106 vX12_101 rfl rfl (Nat.le_of_ble_eq_true rfl) (Nat.le_of_ble_eq_true rfl) hR.x (p_has hR hS (t := 88) (w := qw_quorum) (n := 6) rfl rfl hT ⟨by omega, by omega⟩ (b := b) (by first | exact hb | exact hbb | assumption)) ?_
            refine z_ifh_eq (tgt := 124) eX12_coastLine_109 rfl (fun h109 => ?_) (fun h109 => ?_)
            · rw [zif_f h109]
              refine z_al0 eX12_coastLine_124 hR.ne ?_
              refine z_ldcS (t := 89) eX12_coastLine_125 rfl rfl rfl (by rw [(hS 89 _ rfl).1]) ?_
              refine z_V1 eX12_coastLine_127 vX12_101 rfl rfl (Nat.le_of_ble_eq_true rfl) (Nat.le_of_ble_eq_true rfl) hR.x (p_has hR hS (t := 89) (w := qw_aye) (n := 3) rfl rfl hT ⟨by omega, by omega⟩ (b := b) (by first | exact hb | exact hbb | assumption)) ?_
              refine z_ifh_eq (tgt := 145) eX12_coastLine_130 rfl (fun h130 => ?_) (fun h130 => ?_)
              · rw [zif_f h130]
                refine z_al0 eX12_coastLine_145 hR.ne ?_
                refine z_ldcS (t := 65) eX12_coastLine_146 rfl rfl rfl (by rw [(hS 65 _ rfl).1]) ?_
                refine z_V1 eX12_coastLine_148 vX12_101 rfl rfl (Nat.le_of_ble_eq_true rfl) (Nat.le_of_ble_eq_true rfl) hR.x (p_has hR hS (t := 65) (w := qw_wet) (n := 3) rfl rfl hT ⟨by omega, by omega⟩ (b := b) (by first | exact hb | exact hbb | assumption)) ?_
                refine z_ifh_eq (tgt := 166) eX12_coastLine_151 rfl (fun h151 => ?_) (fun h151 => ?_)
                · rw [zif_f h151]
                  refine z_al0 eX12_coastLine_166 hR.ne ?_
                  refine z_ldcS (t := 90) eX12_coastLine_167 rfl rfl rfl (by rw [(hS 90 _ rfl).1]) ?_
                  refine z_V1 eX12_coastLine_169 vX12_101 rfl rfl (Nat.le_of_ble_eq_true rfl) (Nat.le_of_ble_eq_true rfl) hR.x (p_has hR hS (t := 90) (w := qw_paper) (n := 5) rfl rfl hT ⟨by omega, by omega⟩ (b := b) (by first | exact hb | exact hbb | assumption)) ?_
                  refine z_ifh_eq (tgt := 182) eX12_coastLine_172 rfl (fun h172 => ?_) (fun h172 => ?_)
                  · rw [zif_f h172]
                    refine z_al0 eX12_coastLine_182 hR.ne ?_
                    refine z_ldcS (t := 71) eX12_coastLine_183 rfl rfl rfl (by rw [(hS 71 _ rfl).1]) ?_
                    refine z_V1 eX12_coastLine_185 vX12_101 rfl rfl (Nat.le_of_ble_eq_true rfl) (Nat.le_of_ble_eq_true rfl) hR.x (p_has hR hS (t := 71) (w := qw_hour) (n := 4) rfl rfl hT ⟨by omega, by omega⟩ (b := b) (by first | exact hb | exact hbb | assumption)) ?_
                    refine z_ifh_eq (tgt := 203) eX12_coastLine_188 rfl (fun h188 => ?_) (fun h188 => ?_)
                    · rw [zif_f h188]
                      refine z_al0 eX12_coastLine_203 hR.ne ?_
                      refine z_ldcS (t := 91) eX12_coastLine_204 rfl rfl rfl (by rw [(hS 91 _ rfl).1]) ?_
                      refine z_V1 eX12_coastLine_206 vX12_101 rfl rfl (Nat.le_of_ble_eq_true rfl) (Nat.le_of_ble_eq_true rfl) hR.x (p_has hR hS (t := 91) (w := qw_day) (n := 3) rfl rfl hT ⟨by omega, by omega⟩ (b := b) (by first | exact hb | exact hbb | assumption)) ?_
                      refine z_ifh_eq (tgt := 225) eX12_coastLine_209 rfl (fun h209 => ?_) (fun h209 => ?_)
                      · rw [zif_f h209]
                        refine z_al0 eX12_coastLine_225 hR.ne ?_
                        refine z_al0 eX12_coastLine_226 hR.ne ?_
                        refine z_rg (j := 11) lX12_71 eX12_coastLine_227 rfl hR rfl rfl ?_
                        rw [pS_11]
                        refine z_V1v eX12_coastLine_230 vX12_97 rfl rfl (Nat.le_of_ble_eq_true rfl) (Nat.le_of_ble_eq_true rfl) hR.x (p_X12_wrong hR ⟨by omega, by omega⟩) ?_
                        try rw [zif_t (by assumption)]
                        refine z_return eX12_coastLine_233 rfl ?_
                        first | exact ⟨rfl, rfl, rfl, rfl⟩ | (rw [if_pos h74]; exact ⟨rfl, rfl, rfl, rfl⟩) | (rw [if_neg h74, zM_self]; exact ⟨rfl, rfl, rfl, rfl⟩) | (rw [if_pos rfl, zM_self]; exact ⟨rfl, rfl, rfl, rfl⟩) | (rw [zM_self]; exact ⟨rfl, rfl, rfl, rfl⟩)
                      · refine z_al0 eX12_coastLine_212 hR.ne ?_
                        refine z_bipush eX12_coastLine_213 (by decide) ?_
                        refine z_iconst eX12_coastLine_215 ?_
                        refine z_sipush eX12_coastLine_216 (by decide) ?_
                        refine z_V3v eX12_coastLine_219 vX12_170 rfl rfl (Nat.le_of_ble_eq_true rfl) (Nat.le_of_ble_eq_true rfl) hR.x (p_X12_tells hR hT ⟨by omega, qhas_bd h209 hbd.2, by decide, by decide⟩ ⟨by omega, by omega⟩ (by decide) (by decide)) ?_
                        refine z_goto eX12_coastLine_222 (tgt := 233) rfl ?_
                        try rw [zif_t (by assumption)]
                        refine z_return eX12_coastLine_233 rfl ?_
                        first | exact ⟨rfl, rfl, rfl, rfl⟩ | (rw [if_pos h74]; exact ⟨rfl, rfl, rfl, rfl⟩) | (rw [if_neg h74, zM_self]; exact ⟨rfl, rfl, rfl, rfl⟩) | (rw [if_pos rfl, zM_self]; exact ⟨rfl, rfl, rfl, rfl⟩) | (rw [zM_self]; exact ⟨rfl, rfl, rfl, rfl⟩)
                    · refine z_al0 eX12_coastLine_191 hR.ne ?_
                      refine z_bipush eX12_coastLine_192 (by decide) ?_
                      refine z_iconst eX12_coastLine_194 ?_
                      refine z_bipush eX12_coastLine_195 (by decide) ?_
                      refine z_V3v eX12_coastLine_197 vX12_170 rfl rfl (Nat.le_of_ble_eq_true rfl) (Nat.le_of_ble_eq_true rfl) hR.x (p_X12_tells hR hT ⟨by omega, qhas_bd h188 hbd.2, by decide, by decide⟩ ⟨by omega, by omega⟩ (by decide) (by decide)) ?_
                      refine z_goto eX12_coastLine_200 (tgt := 233) rfl ?_
                      try rw [zif_t (by assumption)]
                      refine z_return eX12_coastLine_233 rfl ?_
                      first | exact ⟨rfl, rfl, rfl, rfl⟩ | (rw [if_pos h74]; exact ⟨rfl, rfl, rfl, rfl⟩) | (rw [if_neg h74, zM_self]; exact ⟨rfl, rfl, rfl, rfl⟩) | (rw [if_pos rfl, zM_self]; exact ⟨rfl, rfl, rfl, rfl⟩) | (rw [zM_self]; exact ⟨rfl, rfl, rfl, rfl⟩)
                  · refine z_al0 eX12_coastLine_175 hR.ne ?_
                    refine z_V0v eX12_coastLine_176 vX12_180 rfl rfl (Nat.le_of_ble_eq_true rfl) (Nat.le_of_ble_eq_true rfl) hR.x (p_X12_paperLine hR hT ⟨by omega, qhas_bd h172 hbd.2, by decide, by decide⟩ hm4 hs) ?_
                    refine z_goto eX12_coastLine_179 (tgt := 233) rfl ?_
                    try rw [zif_t (by assumption)]
                    refine z_return eX12_coastLine_233 rfl ?_
                    first | exact ⟨rfl, rfl, rfl, rfl⟩ | (rw [if_pos h74]; exact ⟨rfl, rfl, rfl, rfl⟩) | (rw [if_neg h74, zM_self]; exact ⟨rfl, rfl, rfl, rfl⟩) | (rw [if_pos rfl, zM_self]; exact ⟨rfl, rfl, rfl, rfl⟩) | (rw [zM_self]; exact ⟨rfl, rfl, rfl, rfl⟩)
                · refine z_al0 eX12_coastLine_154 hR.ne ?_
                  refine z_bipush eX12_coastLine_155 (by decide) ?_
                  refine z_iconst eX12_coastLine_157 ?_
                  refine z_bipush eX12_coastLine_158 (by decide) ?_
                  refine z_V3v eX12_coastLine_160 vX12_170 rfl rfl (Nat.le_of_ble_eq_true rfl) (Nat.le_of_ble_eq_true rfl) hR.x (p_X12_tells hR hT ⟨by omega, qhas_bd h151 hbd.2, by decide, by decide⟩ ⟨by omega, by omega⟩ (by decide) (by decide)) ?_
                  refine z_goto eX12_coastLine_163 (tgt := 233) rfl ?_
                  try rw [zif_t (by assumption)]
                  refine z_return eX12_coastLine_233 rfl ?_
                  first | exact ⟨rfl, rfl, rfl, rfl⟩ | (rw [if_pos h74]; exact ⟨rfl, rfl, rfl, rfl⟩) | (rw [if_neg h74, zM_self]; exact ⟨rfl, rfl, rfl, rfl⟩) | (rw [if_pos rfl, zM_self]; exact ⟨rfl, rfl, rfl, rfl⟩) | (rw [zM_self]; exact ⟨rfl, rfl, rfl, rfl⟩)
              · refine z_al0 eX12_coastLine_133 hR.ne ?_
                refine z_bipush eX12_coastLine_134 (by decide) ?_
                refine z_iconst eX12_coastLine_136 ?_
                refine z_bipush eX12_coastLine_137 (by decide) ?_
                refine z_V3v eX12_coastLine_139 vX12_170 rfl rfl (Nat.le_of_ble_eq_true rfl) (Nat.le_of_ble_eq_true rfl) hR.x (p_X12_tells hR hT ⟨by omega, qhas_bd h130 hbd.2, by decide, by decide⟩ ⟨by omega, by omega⟩ (by decide) (by decide)) ?_
                refine z_goto eX12_coastLine_142 (tgt := 233) rfl ?_
                try rw [zif_t (by assumption)]
                refine z_return eX12_coastLine_233 rfl ?_
                first | exact ⟨rfl, rfl, rfl, rfl⟩ | (rw [if_pos h74]; exact ⟨rfl, rfl, rfl, rfl⟩) | (rw [if_neg h74, zM_self]; exact ⟨rfl, rfl, rfl, rfl⟩) | (rw [if_pos rfl, zM_self]; exact ⟨rfl, rfl, rfl, rfl⟩) | (rw [zM_self]; exact ⟨rfl, rfl, rfl, rfl⟩)
            · refine z_al0 eX12_coastLine_112 hR.ne ?_
              refine z_bipush eX12_coastLine_113 (by decide) ?_
              refine z_iconst eX12_coastLine_115 ?_
              refine z_bipush eX12_coastLine_116 (by decide) ?_
              refine z_V3v eX12_coastLine_118 vX12_170 rfl rfl (Nat.le_of_ble_eq_true rfl) (Nat.le_of_ble_eq_true rfl) hR.x (p_X12_tells hR hT ⟨by omega, qhas_bd h109 hbd.2, by decide, by decide⟩ ⟨by omega, by omega⟩ (by decide) (by decide)) ?_
              refine z_goto eX12_coastLine_121 (tgt := 233) rfl ?_
              try rw [zif_t (by assumption)]
              refine z_return eX12_coastLine_233 rfl ?_
              first | exact ⟨rfl, rfl, rfl, rfl⟩ | (rw [if_pos h74]; exact ⟨rfl, rfl, rfl, rfl⟩) | (rw [if_neg h74, zM_self]; exact ⟨rfl, rfl, rfl, rfl⟩) | (rw [if_pos rfl, zM_self]; exact ⟨rfl, rfl, rfl, rfl⟩) | (rw [zM_self]; exact ⟨rfl, rfl, rfl, rfl⟩)
          · refine z_al0 eX12_coastLine_96 hR.ne ?_
            refine z_V0v eX12_coastLine_97 vX12_165 rfl rfl (Nat.le_of_ble_eq_true rfl) (Nat.le_of_ble_eq_true rfl) hR.x (p_X12_placeLine hR hS hT ⟨by omega, qhas_bd h93 hbd.2, by decide, by decide⟩) ?_
            refine z_goto eX12_coastLine_100 (tgt := 233) rfl ?_
            try rw [zif_t (by assumption)]
            refine z_return eX12_coastLine_233 rfl ?_
            first | exact ⟨rfl, rfl, rfl, rfl⟩ | (rw [if_pos h74]; exact ⟨rfl, rfl, rfl, rfl⟩) | (rw [if_neg h74, zM_self]; exact ⟨rfl, rfl, rfl, rfl⟩) | (rw [if_pos rfl, zM_self]; exact ⟨rfl, rfl, rfl, rfl⟩) | (rw [zM_self]; exact ⟨rfl, rfl, rfl, rfl⟩)
        · refine z_al0 eX12_coastLine_64 hR.ne ?_
          refine z_V0 eX12_coastLine_65 vX12_139 rfl rfl (Nat.le_of_ble_eq_true rfl) (Nat.le_of_ble_eq_true rfl) hR.x (p_X12_sky hR hS hT ⟨by omega, qhas_bd h61 hbd.2, by decide, by decide⟩) ?_
          refine z_is2 eX12_coastLine_68 (Nat.ne_of_beq_eq_false rfl) ?_
          refine z_al0 eX12_coastLine_69 hR.ne ?_
          refine z_rg (j := 12) lX12_25 eX12_coastLine_70 rfl hR rfl rfl ?_
          rw [pS_12]
          refine z_iconst eX12_coastLine_73 ?_
          refine z_icmp_ne (tgt := 84) eX12_coastLine_74 rfl ⟨⟨by have := (qSky_bd (T := rT σ) (a := b + 3) (f := -1) ⟨by omega, qhas_bd h61 hbd.2, by decide, by decide⟩ h10).1.2.2; omega, by have := (qSky_bd (T := rT σ) (a := b + 3) (f := -1) ⟨by omega, qhas_bd h61 hbd.2, by decide, by decide⟩ h10).1.2.2; omega⟩, by decide⟩ (fun h74 => ?_) (fun h74 => ?_)
          · refine z_goto eX12_coastLine_84 (tgt := 233) rfl ?_
            try rw [zif_t (by assumption)]
            refine z_return eX12_coastLine_233 rfl ?_
            first | exact ⟨rfl, rfl, rfl, rfl⟩ | (rw [if_pos h74]; exact ⟨rfl, rfl, rfl, rfl⟩) | (rw [if_neg h74, zM_self]; exact ⟨rfl, rfl, rfl, rfl⟩) | (rw [if_pos rfl, zM_self]; exact ⟨rfl, rfl, rfl, rfl⟩) | (rw [zM_self]; exact ⟨rfl, rfl, rfl, rfl⟩)
          · refine z_al0 eX12_coastLine_77 hR.ne ?_
            refine z_ra lX12_7 eX12_coastLine_78 rfl hR rfl ?_
            refine z_iconst eX12_coastLine_81 ?_
            refine z_il2 eX12_coastLine_82 ?_
            refine z_rs eX12_coastLine_83 hR (by decide) rfl rfl ⟨by omega, by omega⟩ ?_
            first | rw [pS_sM] | rw [pS_s1] | skip
            refine z_goto eX12_coastLine_84 (tgt := 233) rfl ?_
            try rw [zif_t (by assumption)]
            refine z_return eX12_coastLine_233 rfl ?_
            first | exact ⟨rfl, rfl, rfl, rfl⟩ | (rw [if_pos h74]; exact ⟨rfl, rfl, rfl, rfl⟩) | (rw [if_neg h74, zM_self]; exact ⟨rfl, rfl, rfl, rfl⟩) | (rw [if_pos rfl, zM_self]; exact ⟨rfl, rfl, rfl, rfl⟩) | (rw [zM_self]; exact ⟨rfl, rfl, rfl, rfl⟩)
      · refine z_al0 eX12_coastLine_48 hR.ne ?_
        refine z_V0v eX12_coastLine_49 vX12_158 rfl rfl (Nat.le_of_ble_eq_true rfl) (Nat.le_of_ble_eq_true rfl) hR.x (p_X12_skyLine hR hS hT hB ⟨by omega, qhas_bd h45 hbd.2, by decide, by decide⟩) ?_
        refine z_goto eX12_coastLine_52 (tgt := 233) rfl ?_
        try rw [zif_t (by assumption)]
        refine z_return eX12_coastLine_233 rfl ?_
        first | exact ⟨rfl, rfl, rfl, rfl⟩ | (rw [if_pos h74]; exact ⟨rfl, rfl, rfl, rfl⟩) | (rw [if_neg h74, zM_self]; exact ⟨rfl, rfl, rfl, rfl⟩) | (rw [if_pos rfl, zM_self]; exact ⟨rfl, rfl, rfl, rfl⟩) | (rw [zM_self]; exact ⟨rfl, rfl, rfl, rfl⟩)
    · refine z_al0 eX12_coastLine_31 hR.ne ?_
      refine z_il1 eX12_coastLine_32 ?_
      refine z_V1v eX12_coastLine_33 vX12_154 rfl rfl (Nat.le_of_ble_eq_true rfl) (Nat.le_of_ble_eq_true rfl) hR.x (p_X12_motionLine hR hS hT ⟨by omega, qhas_bd h28 hbd.2, by decide, by decide⟩ rfl ⟨by omega, by omega⟩ hm hm4) ?_
      refine z_goto eX12_coastLine_36 (tgt := 233) rfl ?_
      try rw [zif_t (by assumption)]
      refine z_return eX12_coastLine_233 rfl ?_
      first | exact ⟨rfl, rfl, rfl, rfl⟩ | (rw [if_pos h74]; exact ⟨rfl, rfl, rfl, rfl⟩) | (rw [if_neg h74, zM_self]; exact ⟨rfl, rfl, rfl, rfl⟩) | (rw [if_pos rfl, zM_self]; exact ⟨rfl, rfl, rfl, rfl⟩) | (rw [zM_self]; exact ⟨rfl, rfl, rfl, rfl⟩)
  · refine z_al0 eX12_coastLine_14 hR.ne ?_
    refine z_il1 eX12_coastLine_15 ?_
    refine z_V1v eX12_coastLine_16 vX12_149 rfl rfl (Nat.le_of_ble_eq_true rfl) (Nat.le_of_ble_eq_true rfl) hR.x (p_X12_memberLine hR hS hT ⟨by omega, qhas_bd h11 hbd.2, by decide, by decide⟩ rfl ⟨by omega, by omega⟩ hm) ?_
    refine z_goto eX12_coastLine_19 (tgt := 233) rfl ?_
    try rw [zif_t (by assumption)]
    refine z_return eX12_coastLine_233 rfl ?_
    first | exact ⟨rfl, rfl, rfl, rfl⟩ | (rw [if_pos h74]; exact ⟨rfl, rfl, rfl, rfl⟩) | (rw [if_neg h74, zM_self]; exact ⟨rfl, rfl, rfl, rfl⟩) | (rw [if_pos rfl, zM_self]; exact ⟨rfl, rfl, rfl, rfl⟩) | (rw [zM_self]; exact ⟨rfl, rfl, rfl, rfl⟩)
