/-! A part of a sum in the law. -/
/-- words of a part -/
noncomputable def qPartW (T : Int → Int) (e : Int) (F : Int → Int) (b : Int) : Int × Int × Int :=
  zif (qhas T e b qw_member) (F 0, b + 6, -1) (zif (qhas T e b qw_exposed) (F 1, b + 7, -1) (zif (qhas T e b qw_seats) (F 2, b + 5, -1) (zif (qhas T e b qw_sky) (F 3, b + 3, -1) (zif (qhas T e b qw_hour) (F 4, b + 4, -1) (zif (qhas T e b qw_motion) (F 5, b + 6, -1) (zif (qhas T e b qw_worth) (F 6, b + 5, -1) (0, b, b)))))))
noncomputable def qPart (T : Int → Int) (e : Int) (F : Int → Int) (a f : Int) : Int × Int × Int :=
  if f = -1 then (if qscan qbl T e a < e ∧ 48 ≤ T (qscan qbl T e a) ∧ T (qscan qbl T e a) ≤ 57 then qFig T e 0 999 (qscan qbl T e a) (-1) else qPartW T e F (qscan qbl T e a)) else (0, a, f)
/-- the facts are small -/
def zFact (F : Int → Int) : Prop := ∀ k, 0 ≤ k → k < 7 → 0 ≤ F k ∧ F k ≤ 9999
theorem qPartW_bd {T : Int → Int} {e b : Int} {F : Int → Int} (hF : zFact F) (h : 0 ≤ b ∧ b ≤ e) (he : e ≤ 400) : qAt e (qPartW T e F b).2.1 (qPartW T e F b).2.2 ∧ (0 ≤ (qPartW T e F b).1 ∧ (qPartW T e F b).1 ≤ 9999) ∧ ((qPartW T e F b).2.2 = -1 → b < (qPartW T e F b).2.1) := by
  unfold qPartW
  by_cases w0 : qhas T e b qw_member
  · have := qhas_bd w0 h.2
    have := hF 0 (by decide) (by decide)
    rw [zif_t w0]; dsimp only [qAt, qw_member, List.length] at *; omega
  rw [zif_f w0]
  by_cases w1 : qhas T e b qw_exposed
  · have := qhas_bd w1 h.2
    have := hF 1 (by decide) (by decide)
    rw [zif_t w1]; dsimp only [qAt, qw_exposed, List.length] at *; omega
  rw [zif_f w1]
  by_cases w2 : qhas T e b qw_seats
  · have := qhas_bd w2 h.2
    have := hF 2 (by decide) (by decide)
    rw [zif_t w2]; dsimp only [qAt, qw_seats, List.length] at *; omega
  rw [zif_f w2]
  by_cases w3 : qhas T e b qw_sky
  · have := qhas_bd w3 h.2
    have := hF 3 (by decide) (by decide)
    rw [zif_t w3]; dsimp only [qAt, qw_sky, List.length] at *; omega
  rw [zif_f w3]
  by_cases w4 : qhas T e b qw_hour
  · have := qhas_bd w4 h.2
    have := hF 4 (by decide) (by decide)
    rw [zif_t w4]; dsimp only [qAt, qw_hour, List.length] at *; omega
  rw [zif_f w4]
  by_cases w5 : qhas T e b qw_motion
  · have := qhas_bd w5 h.2
    have := hF 5 (by decide) (by decide)
    rw [zif_t w5]; dsimp only [qAt, qw_motion, List.length] at *; omega
  rw [zif_f w5]
  by_cases w6 : qhas T e b qw_worth
  · have := qhas_bd w6 h.2
    have := hF 6 (by decide) (by decide)
    rw [zif_t w6]; dsimp only [qAt, qw_worth, List.length] at *; omega
  rw [zif_f w6]
  dsimp only [qAt]; omega
theorem p_X12_part {G : zG} {lay : zLay} {σ C0 : zMem} {nx x a f : Int} (hR : RefL lay x) (hS : TxS lay C0) (hT : TxI σ) (ha : qAt (σ 0 10) a f) : zMM G 7 KX12_part [zP x] lay (rC x (pS σ a f) C0) nx (0, 0) (zR (some (zI (qPart (rT σ) (σ 0 10) (σ 6) a f).1)) lay (rC x (pS σ (qPart (rT σ) (σ 0 10) (σ 6) a f).2.1 (qPart (rT σ) (σ 0 10) (σ 6) a f).2.2) C0) nx) := by
  refine z_met' (L := [zP x, zU]) gX12_part.1 rfl rfl (Nat.le_of_ble_eq_true rfl) rfl ?_
  obtain ⟨h1, h2, h3, h4⟩ := ha
  have h10 : σ 0 10 ≤ 400 := hT.2.2.1
  have hbd := qskip_bd (T := rT σ) h2
  by_cases hf : f = -1
  · subst hf
    unfold qPart
    rw [if_pos rfl]
    have hbb := qskip_idem (T := rT σ) (e := σ 0 10) (a := a)
    generalize hb : qscan qbl (rT σ) (σ 0 10) a = b at hbd hbb ⊢
    have w52 : ¬ (b < σ 0 10 ∧ 48 ≤ rT σ b ∧ rT σ b ≤ 57) → zW G KX12_part 7 (zR (some (zI (qPartW (rT σ) (σ 0 10) (σ 6) b).1)) lay (rC x (pS σ (qPartW (rT σ) (σ 0 10) (σ 6) b).2.1 (qPartW (rT σ) (σ 0 10) (σ 6) b).2.2) C0) nx) 52 [zP x, zU] [] lay (rC x (pS σ b (-1)) C0) nx (0, 0) := by
      intro _
      unfold qPartW
      refine z_al0 eX12_part_52 hR.ne ?_
      refine z_ldcS (t := 67) eX12_part_53 rfl rfl rfl (by rw [(hS 67 _ rfl).1]) ?_
      refine z_V1 eX12_part_55 vX12_101 rfl rfl (Nat.le_of_ble_eq_true rfl) (Nat.le_of_ble_eq_true rfl) hR.x (p_has hR hS (t := 67) (w := qw_member) (n := 6) rfl rfl hT ⟨by omega, by omega⟩ (b := b) (by first | exact hb | exact hbb | assumption)) ?_
      refine z_ifh_eq (tgt := 65) eX12_part_58 rfl (fun h58 => ?_) (fun h58 => ?_)
      · rw [zif_f h58]
        refine z_al0 eX12_part_65 hR.ne ?_
        refine z_ldcS (t := 68) eX12_part_66 rfl rfl rfl (by rw [(hS 68 _ rfl).1]) ?_
        refine z_V1 eX12_part_68 vX12_101 rfl rfl (Nat.le_of_ble_eq_true rfl) (Nat.le_of_ble_eq_true rfl) hR.x (p_has hR hS (t := 68) (w := qw_exposed) (n := 7) rfl rfl hT ⟨by omega, by omega⟩ (b := b) (by first | exact hb | exact hbb | assumption)) ?_
        refine z_ifh_eq (tgt := 78) eX12_part_71 rfl (fun h71 => ?_) (fun h71 => ?_)
        · rw [zif_f h71]
          refine z_al0 eX12_part_78 hR.ne ?_
          refine z_ldcS (t := 69) eX12_part_79 rfl rfl rfl (by rw [(hS 69 _ rfl).1]) ?_
          refine z_V1 eX12_part_81 vX12_101 rfl rfl (Nat.le_of_ble_eq_true rfl) (Nat.le_of_ble_eq_true rfl) hR.x (p_has hR hS (t := 69) (w := qw_seats) (n := 5) rfl rfl hT ⟨by omega, by omega⟩ (b := b) (by first | exact hb | exact hbb | assumption)) ?_
          refine z_ifh_eq (tgt := 91) eX12_part_84 rfl (fun h84 => ?_) (fun h84 => ?_)
          · rw [zif_f h84]
            refine z_al0 eX12_part_91 hR.ne ?_
            refine z_ldcS (t := 70) eX12_part_92 rfl rfl rfl (by rw [(hS 70 _ rfl).1]) ?_
            refine z_V1 eX12_part_94 vX12_101 rfl rfl (Nat.le_of_ble_eq_true rfl) (Nat.le_of_ble_eq_true rfl) hR.x (p_has hR hS (t := 70) (w := qw_sky) (n := 3) rfl rfl hT ⟨by omega, by omega⟩ (b := b) (by first | exact hb | exact hbb | assumption)) ?_
            refine z_ifh_eq (tgt := 104) eX12_part_97 rfl (fun h97 => ?_) (fun h97 => ?_)
            · rw [zif_f h97]
              refine z_al0 eX12_part_104 hR.ne ?_
              refine z_ldcS (t := 71) eX12_part_105 rfl rfl rfl (by rw [(hS 71 _ rfl).1]) ?_
              refine z_V1 eX12_part_107 vX12_101 rfl rfl (Nat.le_of_ble_eq_true rfl) (Nat.le_of_ble_eq_true rfl) hR.x (p_has hR hS (t := 71) (w := qw_hour) (n := 4) rfl rfl hT ⟨by omega, by omega⟩ (b := b) (by first | exact hb | exact hbb | assumption)) ?_
              refine z_ifh_eq (tgt := 117) eX12_part_110 rfl (fun h110 => ?_) (fun h110 => ?_)
              · rw [zif_f h110]
                refine z_al0 eX12_part_117 hR.ne ?_
                refine z_ldcS (t := 72) eX12_part_118 rfl rfl rfl (by rw [(hS 72 _ rfl).1]) ?_
                refine z_V1 eX12_part_120 vX12_101 rfl rfl (Nat.le_of_ble_eq_true rfl) (Nat.le_of_ble_eq_true rfl) hR.x (p_has hR hS (t := 72) (w := qw_motion) (n := 6) rfl rfl hT ⟨by omega, by omega⟩ (b := b) (by first | exact hb | exact hbb | assumption)) ?_
                refine z_ifh_eq (tgt := 130) eX12_part_123 rfl (fun h123 => ?_) (fun h123 => ?_)
                · rw [zif_f h123]
                  refine z_al0 eX12_part_130 hR.ne ?_
                  refine z_ldcS (t := 73) eX12_part_131 rfl rfl rfl (by rw [(hS 73 _ rfl).1]) ?_
                  refine z_V1 eX12_part_133 vX12_101 rfl rfl (Nat.le_of_ble_eq_true rfl) (Nat.le_of_ble_eq_true rfl) hR.x (p_has hR hS (t := 73) (w := qw_worth) (n := 5) rfl rfl hT ⟨by omega, by omega⟩ (b := b) (by first | exact hb | exact hbb | assumption)) ?_
                  refine z_ifh_eq (tgt := 144) eX12_part_136 rfl (fun h136 => ?_) (fun h136 => ?_)
                  · rw [zif_f h136]
                    refine z_iconst eX12_part_144 ?_
                    refine z_is1 eX12_part_145 (Nat.ne_of_beq_eq_false rfl) ?_
                    refine z_il1 eX12_part_146 ?_
                    refine z_iconst eX12_part_147 ?_
                    refine z_icmp_ne (tgt := 161) eX12_part_148 rfl ⟨⟨by omega, by omega⟩, ⟨by omega, by omega⟩⟩ (fun h148 => (by exfalso; omega)) (fun h148 => ?_)
                    refine z_al0 eX12_part_151 hR.ne ?_
                    refine z_al0 eX12_part_152 hR.ne ?_
                    refine z_rg (j := 11) lX12_71 eX12_part_153 rfl hR rfl rfl ?_
                    rw [pS_11]
                    refine z_V1v eX12_part_156 vX12_97 rfl rfl (Nat.le_of_ble_eq_true rfl) (Nat.le_of_ble_eq_true rfl) hR.x (p_X12_wrong hR ⟨by omega, by omega⟩) ?_
                    rw [if_pos rfl]
                    refine z_iconst eX12_part_159 ?_
                    refine z_ireturn eX12_part_160 rfl ?_
                    first | exact ⟨rfl, rfl, rfl, rfl⟩ | exact zRb1 (by omega) | exact zRb0 (by omega) | exact zRe (by omega)
                  · refine z_bipush eX12_part_139 (by decide) ?_
                    refine z_goto eX12_part_141 (tgt := 145) rfl ?_
                    refine z_is1 eX12_part_145 (Nat.ne_of_beq_eq_false rfl) ?_
                    refine z_il1 eX12_part_146 ?_
                    refine z_iconst eX12_part_147 ?_
                    refine z_icmp_ne (tgt := 161) eX12_part_148 rfl ⟨⟨by omega, by omega⟩, ⟨by omega, by omega⟩⟩ (fun h148 => ?_) (fun h148 => (by exfalso; omega))
                    refine z_al0 eX12_part_161 hR.ne ?_
                    refine z_ra lX12_29 eX12_part_162 rfl hR rfl ?_
                    refine z_il1 eX12_part_165 ?_
                    refine z_rl eX12_part_166 hR (by decide) rfl rfl ⟨by omega, by omega⟩ ?_
                    first | rw [pS_1M] | rw [pS_1] | skip
                    rw [pS_o (by decide), zif_t (by assumption)]
                    refine z_ireturn eX12_part_167 rfl ?_
                    first | exact ⟨rfl, rfl, rfl, rfl⟩ | exact zRb1 (by omega) | exact zRb0 (by omega) | exact zRe (by omega)
                · refine z_iconst eX12_part_126 ?_
                  refine z_goto eX12_part_127 (tgt := 145) rfl ?_
                  refine z_is1 eX12_part_145 (Nat.ne_of_beq_eq_false rfl) ?_
                  refine z_il1 eX12_part_146 ?_
                  refine z_iconst eX12_part_147 ?_
                  refine z_icmp_ne (tgt := 161) eX12_part_148 rfl ⟨⟨by omega, by omega⟩, ⟨by omega, by omega⟩⟩ (fun h148 => ?_) (fun h148 => (by exfalso; omega))
                  refine z_al0 eX12_part_161 hR.ne ?_
                  refine z_ra lX12_29 eX12_part_162 rfl hR rfl ?_
                  refine z_il1 eX12_part_165 ?_
                  refine z_rl eX12_part_166 hR (by decide) rfl rfl ⟨by omega, by omega⟩ ?_
                  first | rw [pS_1M] | rw [pS_1] | skip
                  rw [pS_o (by decide), zif_t (by assumption)]
                  refine z_ireturn eX12_part_167 rfl ?_
                  first | exact ⟨rfl, rfl, rfl, rfl⟩ | exact zRb1 (by omega) | exact zRb0 (by omega) | exact zRe (by omega)
              · refine z_iconst eX12_part_113 ?_
                refine z_goto eX12_part_114 (tgt := 145) rfl ?_
                refine z_is1 eX12_part_145 (Nat.ne_of_beq_eq_false rfl) ?_
                refine z_il1 eX12_part_146 ?_
                refine z_iconst eX12_part_147 ?_
                refine z_icmp_ne (tgt := 161) eX12_part_148 rfl ⟨⟨by omega, by omega⟩, ⟨by omega, by omega⟩⟩ (fun h148 => ?_) (fun h148 => (by exfalso; omega))
                refine z_al0 eX12_part_161 hR.ne ?_
                refine z_ra lX12_29 eX12_part_162 rfl hR rfl ?_
                refine z_il1 eX12_part_165 ?_
                refine z_rl eX12_part_166 hR (by decide) rfl rfl ⟨by omega, by omega⟩ ?_
                first | rw [pS_1M] | rw [pS_1] | skip
                rw [pS_o (by decide), zif_t (by assumption)]
                refine z_ireturn eX12_part_167 rfl ?_
                first | exact ⟨rfl, rfl, rfl, rfl⟩ | exact zRb1 (by omega) | exact zRb0 (by omega) | exact zRe (by omega)
            · refine z_iconst eX12_part_100 ?_
              refine z_goto eX12_part_101 (tgt := 145) rfl ?_
              refine z_is1 eX12_part_145 (Nat.ne_of_beq_eq_false rfl) ?_
              refine z_il1 eX12_part_146 ?_
              refine z_iconst eX12_part_147 ?_
              refine z_icmp_ne (tgt := 161) eX12_part_148 rfl ⟨⟨by omega, by omega⟩, ⟨by omega, by omega⟩⟩ (fun h148 => ?_) (fun h148 => (by exfalso; omega))
              refine z_al0 eX12_part_161 hR.ne ?_
              refine z_ra lX12_29 eX12_part_162 rfl hR rfl ?_
              refine z_il1 eX12_part_165 ?_
              refine z_rl eX12_part_166 hR (by decide) rfl rfl ⟨by omega, by omega⟩ ?_
              first | rw [pS_1M] | rw [pS_1] | skip
              rw [pS_o (by decide), zif_t (by assumption)]
              refine z_ireturn eX12_part_167 rfl ?_
              first | exact ⟨rfl, rfl, rfl, rfl⟩ | exact zRb1 (by omega) | exact zRb0 (by omega) | exact zRe (by omega)
          · refine z_iconst eX12_part_87 ?_
            refine z_goto eX12_part_88 (tgt := 145) rfl ?_
            refine z_is1 eX12_part_145 (Nat.ne_of_beq_eq_false rfl) ?_
            refine z_il1 eX12_part_146 ?_
            refine z_iconst eX12_part_147 ?_
            refine z_icmp_ne (tgt := 161) eX12_part_148 rfl ⟨⟨by omega, by omega⟩, ⟨by omega, by omega⟩⟩ (fun h148 => ?_) (fun h148 => (by exfalso; omega))
            refine z_al0 eX12_part_161 hR.ne ?_
            refine z_ra lX12_29 eX12_part_162 rfl hR rfl ?_
            refine z_il1 eX12_part_165 ?_
            refine z_rl eX12_part_166 hR (by decide) rfl rfl ⟨by omega, by omega⟩ ?_
            first | rw [pS_1M] | rw [pS_1] | skip
            rw [pS_o (by decide), zif_t (by assumption)]
            refine z_ireturn eX12_part_167 rfl ?_
            first | exact ⟨rfl, rfl, rfl, rfl⟩ | exact zRb1 (by omega) | exact zRb0 (by omega) | exact zRe (by omega)
        · refine z_iconst eX12_part_74 ?_
          refine z_goto eX12_part_75 (tgt := 145) rfl ?_
          refine z_is1 eX12_part_145 (Nat.ne_of_beq_eq_false rfl) ?_
          refine z_il1 eX12_part_146 ?_
          refine z_iconst eX12_part_147 ?_
          refine z_icmp_ne (tgt := 161) eX12_part_148 rfl ⟨⟨by omega, by omega⟩, ⟨by omega, by omega⟩⟩ (fun h148 => ?_) (fun h148 => (by exfalso; omega))
          refine z_al0 eX12_part_161 hR.ne ?_
          refine z_ra lX12_29 eX12_part_162 rfl hR rfl ?_
          refine z_il1 eX12_part_165 ?_
          refine z_rl eX12_part_166 hR (by decide) rfl rfl ⟨by omega, by omega⟩ ?_
          first | rw [pS_1M] | rw [pS_1] | skip
          rw [pS_o (by decide), zif_t (by assumption)]
          refine z_ireturn eX12_part_167 rfl ?_
          first | exact ⟨rfl, rfl, rfl, rfl⟩ | exact zRb1 (by omega) | exact zRb0 (by omega) | exact zRe (by omega)
      · refine z_iconst eX12_part_61 ?_
        refine z_goto eX12_part_62 (tgt := 145) rfl ?_
        refine z_is1 eX12_part_145 (Nat.ne_of_beq_eq_false rfl) ?_
        refine z_il1 eX12_part_146 ?_
        refine z_iconst eX12_part_147 ?_
        refine z_icmp_ne (tgt := 161) eX12_part_148 rfl ⟨⟨by omega, by omega⟩, ⟨by omega, by omega⟩⟩ (fun h148 => ?_) (fun h148 => (by exfalso; omega))
        refine z_al0 eX12_part_161 hR.ne ?_
        refine z_ra lX12_29 eX12_part_162 rfl hR rfl ?_
        refine z_il1 eX12_part_165 ?_
        refine z_rl eX12_part_166 hR (by decide) rfl rfl ⟨by omega, by omega⟩ ?_
        first | rw [pS_1M] | rw [pS_1] | skip
        rw [pS_o (by decide), zif_t (by assumption)]
        refine z_ireturn eX12_part_167 rfl ?_
        first | exact ⟨rfl, rfl, rfl, rfl⟩ | exact zRb1 (by omega) | exact zRb0 (by omega) | exact zRe (by omega)
    have hlet : b < σ 0 10 → 0 ≤ rT σ b ∧ rT σ b ≤ 255 := fun z => hT.2.2.2 b (by omega) (by omega)
    refine z_al0 eX12_part_0 hR.ne ?_
    refine z_rg (j := 12) lX12_25 eX12_part_1 rfl hR rfl rfl ?_
    rw [pS_12]
    refine z_iconst eX12_part_4 ?_
    refine z_icmp_eq (tgt := 10) eX12_part_5 rfl ⟨⟨by omega, by omega⟩, ⟨by omega, by omega⟩⟩ (fun h5 => ?_) (fun h5 => (by exfalso; omega))
    refine z_al0 eX12_part_10 hR.ne ?_
    refine z_V0v eX12_part_11 vX12_81 rfl rfl (Nat.le_of_ble_eq_true rfl) (Nat.le_of_ble_eq_true rfl) hR.x (p_X12_skip hR hT ⟨by omega, by omega⟩) ?_
    rw [hb]
    refine z_al0 eX12_part_14 hR.ne ?_
    refine z_rg (j := 11) lX12_71 eX12_part_15 rfl hR rfl rfl ?_
    rw [pS_11]
    refine z_al0 eX12_part_18 hR.ne ?_
    refine z_rg (j := 10) lX12_74 eX12_part_19 rfl hR rfl rfl ?_
    rw [pS_10]
    refine z_icmp_ge (tgt := 52) eX12_part_22 rfl ⟨⟨by omega, by omega⟩, ⟨by omega, by omega⟩⟩ (fun h22 => ?_) (fun h22 => ?_)
    · rw [if_neg (by omega)]; exact w52 (by omega)
    · refine z_al0 eX12_part_25 hR.ne ?_
      refine z_al0 eX12_part_26 hR.ne ?_
      refine z_rg (j := 11) lX12_71 eX12_part_27 rfl hR rfl rfl ?_
      rw [pS_11]
      refine z_V1 eX12_part_30 vX12_77 rfl rfl (Nat.le_of_ble_eq_true rfl) (Nat.le_of_ble_eq_true rfl) hR.x (p_X12_letter hR hT ⟨by omega, by omega⟩) ?_
      refine z_bipush eX12_part_33 (by decide) ?_
      refine z_bipush eX12_part_35 (by decide) ?_
      refine z_S3 eX12_part_37 vX12_51 rfl rfl (Nat.le_of_ble_eq_true rfl) (Nat.le_of_ble_eq_true rfl) (m_X12_isIn (by refine ⟨?_, ?_, ?_⟩ <;> first | omega | decide | assumption)) ?_
      have hl2 := hlet (by omega)
      refine z_ifb_eq (tgt := 52) eX12_part_40 rfl (fun h40 => ?_) (fun h40 => ?_)
      · rw [if_neg (by omega)]; exact w52 (by omega)
      · refine z_al0 eX12_part_43 hR.ne ?_
        refine z_iconst eX12_part_44 ?_
        refine z_sipush eX12_part_45 (by decide) ?_
        refine z_V2 eX12_part_48 vX12_105 rfl rfl (Nat.le_of_ble_eq_true rfl) (Nat.le_of_ble_eq_true rfl) hR.x (p_X12_figures hR hT ⟨by omega, by omega⟩ ⟨by omega, by omega⟩ ⟨by omega, by omega⟩ ⟨by omega, by omega⟩) ?_
        refine z_ireturn eX12_part_51 rfl ?_
        rw [if_pos ⟨by omega, h40⟩]; exact ⟨rfl, rfl, rfl, rfl⟩
  · have e : qPart (rT σ) (σ 0 10) (σ 6) a f = (0, a, f) := by unfold qPart; rw [if_neg hf]
    rw [e]
    refine z_al0 eX12_part_0 hR.ne ?_
    refine z_rg (j := 12) lX12_25 eX12_part_1 rfl hR rfl rfl ?_
    rw [pS_12]
    refine z_iconst eX12_part_4 ?_
    refine z_icmp_eq (tgt := 10) eX12_part_5 rfl ⟨⟨by omega, by omega⟩, ⟨by omega, by omega⟩⟩ (fun h5 => absurd h5 hf) (fun h5 => ?_)
    refine z_iconst eX12_part_8 ?_
    refine z_ireturn eX12_part_9 rfl ?_
    first | exact ⟨rfl, rfl, rfl, rfl⟩ | exact zRb1 (by omega) | exact zRb0 (by omega) | exact zRe (by omega)
