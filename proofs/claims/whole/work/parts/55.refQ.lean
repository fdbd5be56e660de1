/-! Conditions in the law. -/
theorem pS_f {σ : zMem} {a f j : Int} (h1 : j ≠ 11) (h2 : j ≠ 12) : pS σ a f 0 j = σ 0 j := by simp [pS_at, h1, h2]
theorem pS_sf {σ : zMem} {a f j v : Int} (h1 : j ≠ 11) (h2 : j ≠ 12) : zset (pS σ a f) 0 j v = pS (zset σ 0 j v) a f := by
  funext o i
  simp only [zset_at, pS_at]
  by_cases h : o = 0 ∧ i = j
  · rw [if_pos h, if_neg (by omega), if_neg (by omega), if_pos h]
  · rw [if_neg h, if_neg h]
/-- a comparison -/
noncomputable def qCmp (T : Int → Int) (e : Int) (F : Int → Int) (b : Int) : Int × Int × Int :=
  if (qSum T e F b (-1)).2.2 = -1 then
    (if qscan qbl T e (qSum T e F b (-1)).2.1 < e ∧ T (qscan qbl T e (qSum T e F b (-1)).2.1) = 60 then (zbi ((qSum T e F b (-1)).1 < (qSum T e F (qscan qbl T e (qSum T e F b (-1)).2.1 + 1) (-1)).1), (qSum T e F (qscan qbl T e (qSum T e F b (-1)).2.1 + 1) (-1)).2)
     else if qscan qbl T e (qSum T e F b (-1)).2.1 < e ∧ T (qscan qbl T e (qSum T e F b (-1)).2.1) = 62 then (zbi ((qSum T e F (qscan qbl T e (qSum T e F b (-1)).2.1 + 1) (-1)).1 < (qSum T e F b (-1)).1), (qSum T e F (qscan qbl T e (qSum T e F b (-1)).2.1 + 1) (-1)).2)
     else (0, qscan qbl T e (qSum T e F b (-1)).2.1, qscan qbl T e (qSum T e F b (-1)).2.1))
  else (0, (qSum T e F b (-1)).2)
noncomputable def qPlain (T : Int → Int) (e : Int) (F : Int → Int) (H V b : Int) : Int × Int × Int :=
  zif (qhas T e b qw_hat) (H, b + 3, -1) (zif (qhas T e b qw_wet) (zbi (1 < F 3), b + 3, -1) (zif (qhas T e b qw_mover) (V, b + 5, -1) (qCmp T e F b)))
/-- the place may go past the end behind a fault -/
def qAx (e n a f : Int) : Prop := 0 ≤ a ∧ a ≤ e + n ∧ (f = -1 → a ≤ e) ∧ -1 ≤ f ∧ f ≤ 400
theorem qAt.x {e a f : Int} (h : qAt e a f) (n : Int) (hn : 0 ≤ n) : qAx e n a f := by
  obtain ⟨h1, h2, h3, h4⟩ := h
  exact ⟨h1, by omega, fun _ => h2, h3, h4⟩
def qC (e n a : Int) (r : Int × Int × Int) : Prop := qAx e n r.2.1 r.2.2 ∧ (r.1 = 0 ∨ r.1 = 1) ∧ a ≤ r.2.1
theorem qC.mk' {e n a : Int} {r : Int × Int × Int} (h1 : qAt e r.2.1 r.2.2) (hn : 0 ≤ n) (h2 : r.1 = 0 ∨ r.1 = 1) (h3 : a ≤ r.2.1) : qC e n a r := ⟨⟨h1.1, by have := h1.2.1; omega, fun _ => h1.2.1, h1.2.2.1, h1.2.2.2⟩, h2, h3⟩
theorem qCmp_bd {T : Int → Int} {e b n : Int} {F : Int → Int} (hF : zFact F) (h : 0 ≤ b ∧ b ≤ e) (he : e ≤ 400) (hT : ∀ k, 0 ≤ k → k < 400 → 0 ≤ T k) (hn : 0 ≤ n) : qC e n b (qCmp T e F b) := by
  have h1 := qSum_bd (T := T) (e := e) (a := b) (f := -1) hF ⟨h.1, h.2, by decide, by omega⟩ he hT
  unfold qCmp
  generalize qSum T e F b (-1) = s at h1 ⊢
  obtain ⟨h1, h2, h3, h4⟩ := h1
  have h5 := qskip_bd (T := T) h1.2.1
  generalize qscan qbl T e s.2.1 = c at h5 ⊢
  split
  · split
    · have h6 := qSum_bd (T := T) (e := e) (a := c + 1) (f := -1) hF ⟨by omega, by omega, by decide, by omega⟩ he hT
      exact qC.mk' h6.1 hn (zbi_01 _) (by have := h6.2.2.1; show b ≤ (qSum T e F (c + 1) (-1)).2.1; omega)
    · split
      · have h6 := qSum_bd (T := T) (e := e) (a := c + 1) (f := -1) hF ⟨by omega, by omega, by decide, by omega⟩ he hT
        exact qC.mk' h6.1 hn (zbi_01 _) (by have := h6.2.2.1; show b ≤ (qSum T e F (c + 1) (-1)).2.1; omega)
      · exact qC.mk' (by dsimp only [qAt]; omega) hn (Or.inl rfl) (by dsimp only; omega)
  · exact qC.mk' h1 hn (Or.inl rfl) h3
theorem qPlain_bd {T : Int → Int} {e b n H V : Int} {F : Int → Int} (hF : zFact F) (hH : H = 0 ∨ H = 1) (hV : V = 0 ∨ V = 1) (h : 0 ≤ b ∧ b ≤ e) (he : e ≤ 400) (hT : ∀ k, 0 ≤ k → k < 400 → 0 ≤ T k) (hn : 0 ≤ n) : qC e n b (qPlain T e F H V b) := by
  unfold qPlain
  by_cases w0 : qhas T e b qw_hat
  · have := qhas_bd w0 h.2
    rw [zif_t w0]; dsimp only [qw_hat, List.length] at *; exact qC.mk' (by dsimp only [qAt]; omega) hn hH (by dsimp only; omega)
  rw [zif_f w0]
  by_cases w1 : qhas T e b qw_wet
  · have := qhas_bd w1 h.2
    rw [zif_t w1]; dsimp only [qw_wet, List.length] at *; exact qC.mk' (by dsimp only [qAt]; omega) hn (zbi_01 _) (by dsimp only; omega)
  rw [zif_f w1]
  by_cases w2 : qhas T e b qw_mover
  · have := qhas_bd w2 h.2
    rw [zif_t w2]; dsimp only [qw_mover, List.length] at *; exact qC.mk' (by dsimp only [qAt]; omega) hn hV (by dsimp only; omega)
  rw [zif_f w2]
  exact qCmp_bd hF h he hT hn
/-- what a condition asks -/
def LwH (σ : zMem) : Prop := TxI σ ∧ zFact (σ 6) ∧ (σ 0 15 = 0 ∨ σ 0 15 = 1) ∧ (σ 0 16 = 0 ∨ σ 0 16 = 1)
theorem p_X12_plain {G : zG} {lay : zLay} {σ C0 : zMem} {nx x b : Int} (hR : RefL lay x) (hS : TxS lay C0) (hL : LwH σ) (hb : 0 ≤ b ∧ b ≤ σ 0 10) (hbb : qscan qbl (rT σ) (σ 0 10) b = b) : zMM G 9 KX12_plain [zP x] lay (rC x (pS σ b (-1)) C0) nx (0, 0) (zR (some (zI (qPlain (rT σ) (σ 0 10) (σ 6) (σ 0 15) (σ 0 16) b).1)) lay (rC x (pS σ (qPlain (rT σ) (σ 0 10) (σ 6) (σ 0 15) (σ 0 16) b).2.1 (qPlain (rT σ) (σ 0 10) (σ 6) (σ 0 15) (σ 0 16) b).2.2) C0) nx) := by
  obtain ⟨hT, hF, hH, hV⟩ := hL
  have h10 : σ 0 10 ≤ 400 := hT.2.2.1
  have hF3 := hF 3 (by decide) (by decide)
  refine z_met' (L := [zP x, zU, zU, zU]) gX12_plain.1 rfl rfl (Nat.le_of_ble_eq_true rfl) rfl ?_
  have w53 : zW G KX12_plain 9 (zR (some (zI (qCmp (rT σ) (σ 0 10) (σ 6) b).1)) lay (rC x (pS σ (qCmp (rT σ) (σ 0 10) (σ 6) b).2.1 (qCmp (rT σ) (σ 0 10) (σ 6) b).2.2) C0) nx) 53 [zP x, zU, zU, zU] [] lay (rC x (pS σ b (-1)) C0) nx (0, 0) := by
    have h1 := qSum_bd (T := rT σ) (e := σ 0 10) (a := b) (f := -1) hF ⟨hb.1, hb.2, by decide, by omega⟩ h10 hT.p
    unfold qCmp
    generalize hs : qSum (rT σ) (σ 0 10) (σ 6) b (-1) = s at h1 ⊢
    obtain ⟨h1, h2, h3, h4⟩ := h1
    have h5 := qskip_bd (T := rT σ) h1.2.1
    obtain ⟨s1, s2, s3, s4⟩ := h1
    have hcc := qskip_idem (T := rT σ) (e := σ 0 10) (a := s.2.1)
    generalize hc : qscan qbl (rT σ) (σ 0 10) s.2.1 = c at h5 hcc ⊢
    have hu : c < σ 0 10 → _ := fun z => qSum_bd (T := rT σ) (e := σ 0 10) (a := c + 1) (f := -1) hF ⟨by omega, by omega, by decide, by omega⟩ h10 hT.p
    generalize hu' : qSum (rT σ) (σ 0 10) (σ 6) (c + 1) (-1) = u at hu ⊢
    refine z_al0 eX12_plain_53 hR.ne ?_
    refine z_V0 eX12_plain_54 vX12_228 rfl rfl (Nat.le_of_ble_eq_true rfl) (Nat.le_of_ble_eq_true rfl) hR.x (p_X12_sum hR hS hT (by first | assumption | exact ⟨by omega, by omega, by omega, by omega⟩) hF) ?_
    rw [hs]
    refine z_is1 eX12_plain_57 (Nat.ne_of_beq_eq_false rfl) ?_
    refine z_al0 eX12_plain_58 hR.ne ?_
    refine z_rg (j := 12) lX12_25 eX12_plain_59 rfl hR rfl rfl ?_
    rw [pS_12]
    refine z_iconst eX12_plain_62 ?_
    refine z_icmp_eq (tgt := 68) eX12_plain_63 rfl ⟨⟨by omega, by omega⟩, ⟨by omega, by omega⟩⟩ (fun h63 => ?_) (fun h63 => ?_)
    · rw [if_pos h63, h63]
      refine z_al0 eX12_plain_68 hR.ne ?_
      refine z_bipush eX12_plain_69 (by decide) ?_
      refine z_V1 eX12_plain_71 vX12_196 rfl rfl (Nat.le_of_ble_eq_true rfl) (Nat.le_of_ble_eq_true rfl) hR.x (p_X12_isSign hR hT ⟨by omega, by omega⟩ (by decide)) ?_
      rw [hc]
      refine z_is2 eX12_plain_74 (Nat.ne_of_beq_eq_false rfl) ?_
      refine z_il2 eX12_plain_75 ?_
      refine z_ifb_ne (tgt := 98) eX12_plain_76 rfl (fun h76 => ?_) (fun h76 => ?_)
      · refine z_al0 eX12_plain_98 hR.ne ?_
        refine z_dup eX12_plain_99 (Nat.ne_of_beq_eq_false rfl) ?_
        refine z_rg (j := 11) lX12_71 eX12_plain_100 rfl hR rfl rfl ?_
        rw [pS_11]
        refine z_iconst eX12_plain_103 ?_
        refine z_iadd eX12_plain_104 ?_
        refine z_rp (j := 11) lX12_71 eX12_plain_105 rfl hR rfl rfl ?_
        rw [pS_s11]
        refine z_al0 eX12_plain_108 hR.ne ?_
        refine z_V0 eX12_plain_109 vX12_228 rfl rfl (Nat.le_of_ble_eq_true rfl) (Nat.le_of_ble_eq_true rfl) hR.x (p_X12_sum hR hS hT (by first | assumption | exact ⟨by omega, by omega, by omega, by omega⟩) hF) ?_
        rw [hu']
        have hu2 := hu (by omega)
        refine z_is3 eX12_plain_112 (Nat.ne_of_beq_eq_false rfl) ?_
        refine z_il2 eX12_plain_113 ?_
        refine z_ifb_eq (tgt := 130) eX12_plain_114 rfl (fun h114 => ?_) (fun h114 => ?_)
        · refine z_il1 eX12_plain_130 ?_
          refine z_il3 eX12_plain_131 ?_
          refine z_icmp_le (tgt := 139) eX12_plain_132 rfl ⟨⟨by omega, by omega⟩, ⟨by omega, by omega⟩⟩ (fun h132 => ?_) (fun h132 => ?_)
          · refine z_iconst eX12_plain_139 ?_
            refine z_zreturn eX12_plain_140 rfl (by first | exact Or.inl rfl | exact Or.inr rfl | exact zbi_01 _ | assumption | omega) ?_
            first | exact absurd h76 h114 | exact absurd h114 h76 | (rw [if_pos h76, zbi_t (by omega)]; exact ⟨rfl, rfl, rfl, rfl⟩) | (rw [if_pos h76, zbi_f (by omega)]; exact ⟨rfl, rfl, rfl, rfl⟩) | (rw [if_neg h76, if_pos h85, zbi_t (by omega)]; exact ⟨rfl, rfl, rfl, rfl⟩) | (rw [if_neg h76, if_pos h85, zbi_f (by omega)]; exact ⟨rfl, rfl, rfl, rfl⟩)
          · refine z_iconst eX12_plain_135 ?_
            refine z_goto eX12_plain_136 (tgt := 140) rfl ?_
            refine z_zreturn eX12_plain_140 rfl (by first | exact Or.inl rfl | exact Or.inr rfl | exact zbi_01 _ | assumption | omega) ?_
            first | exact absurd h76 h114 | exact absurd h114 h76 | (rw [if_pos h76, zbi_t (by omega)]; exact ⟨rfl, rfl, rfl, rfl⟩) | (rw [if_pos h76, zbi_f (by omega)]; exact ⟨rfl, rfl, rfl, rfl⟩) | (rw [if_neg h76, if_pos h85, zbi_t (by omega)]; exact ⟨rfl, rfl, rfl, rfl⟩) | (rw [if_neg h76, if_pos h85, zbi_f (by omega)]; exact ⟨rfl, rfl, rfl, rfl⟩)
        · refine z_il1 eX12_plain_117 ?_
          refine z_il3 eX12_plain_118 ?_
          refine z_icmp_ge (tgt := 126) eX12_plain_119 rfl ⟨⟨by omega, by omega⟩, ⟨by omega, by omega⟩⟩ (fun h119 => ?_) (fun h119 => ?_)
          · refine z_iconst eX12_plain_126 ?_
            refine z_goto eX12_plain_127 (tgt := 140) rfl ?_
            refine z_zreturn eX12_plain_140 rfl (by first | exact Or.inl rfl | exact Or.inr rfl | exact zbi_01 _ | assumption | omega) ?_
            first | exact absurd h76 h114 | exact absurd h114 h76 | (rw [if_pos h76, zbi_t (by omega)]; exact ⟨rfl, rfl, rfl, rfl⟩) | (rw [if_pos h76, zbi_f (by omega)]; exact ⟨rfl, rfl, rfl, rfl⟩) | (rw [if_neg h76, if_pos h85, zbi_t (by omega)]; exact ⟨rfl, rfl, rfl, rfl⟩) | (rw [if_neg h76, if_pos h85, zbi_f (by omega)]; exact ⟨rfl, rfl, rfl, rfl⟩)
          · refine z_iconst eX12_plain_122 ?_
            refine z_goto eX12_plain_123 (tgt := 140) rfl ?_
            refine z_zreturn eX12_plain_140 rfl (by first | exact Or.inl rfl | exact Or.inr rfl | exact zbi_01 _ | assumption | omega) ?_
            first | exact absurd h76 h114 | exact absurd h114 h76 | (rw [if_pos h76, zbi_t (by omega)]; exact ⟨rfl, rfl, rfl, rfl⟩) | (rw [if_pos h76, zbi_f (by omega)]; exact ⟨rfl, rfl, rfl, rfl⟩) | (rw [if_neg h76, if_pos h85, zbi_t (by omega)]; exact ⟨rfl, rfl, rfl, rfl⟩) | (rw [if_neg h76, if_pos h85, zbi_f (by omega)]; exact ⟨rfl, rfl, rfl, rfl⟩)
      · refine z_al0 eX12_plain_79 hR.ne ?_
        refine z_bipush eX12_plain_80 (by decide) ?_
        refine z_V1 eX12_plain_82 vX12_196 rfl rfl (Nat.le_of_ble_eq_true rfl) (Nat.le_of_ble_eq_true rfl) hR.x (p_X12_isSign hR hT ⟨by omega, by omega⟩ (by decide)) ?_
        rw [hcc]
        refine z_ifb_ne (tgt := 98) eX12_plain_85 rfl (fun h85 => ?_) (fun h85 => ?_)
        · refine z_al0 eX12_plain_98 hR.ne ?_
          refine z_dup eX12_plain_99 (Nat.ne_of_beq_eq_false rfl) ?_
          refine z_rg (j := 11) lX12_71 eX12_plain_100 rfl hR rfl rfl ?_
          rw [pS_11]
          refine z_iconst eX12_plain_103 ?_
          refine z_iadd eX12_plain_104 ?_
          refine z_rp (j := 11) lX12_71 eX12_plain_105 rfl hR rfl rfl ?_
          rw [pS_s11]
          refine z_al0 eX12_plain_108 hR.ne ?_
          refine z_V0 eX12_plain_109 vX12_228 rfl rfl (Nat.le_of_ble_eq_true rfl) (Nat.le_of_ble_eq_true rfl) hR.x (p_X12_sum hR hS hT (by first | assumption | exact ⟨by omega, by omega, by omega, by omega⟩) hF) ?_
          rw [hu']
          have hu2 := hu (by omega)
          refine z_is3 eX12_plain_112 (Nat.ne_of_beq_eq_false rfl) ?_
          refine z_il2 eX12_plain_113 ?_
          refine z_ifb_eq (tgt := 130) eX12_plain_114 rfl (fun h114 => ?_) (fun h114 => ?_)
          · refine z_il1 eX12_plain_130 ?_
            refine z_il3 eX12_plain_131 ?_
            refine z_icmp_le (tgt := 139) eX12_plain_132 rfl ⟨⟨by omega, by omega⟩, ⟨by omega, by omega⟩⟩ (fun h132 => ?_) (fun h132 => ?_)
            · refine z_iconst eX12_plain_139 ?_
              refine z_zreturn eX12_plain_140 rfl (by first | exact Or.inl rfl | exact Or.inr rfl | exact zbi_01 _ | assumption | omega) ?_
              first | exact absurd h76 h114 | exact absurd h114 h76 | (rw [if_pos h76, zbi_t (by omega)]; exact ⟨rfl, rfl, rfl, rfl⟩) | (rw [if_pos h76, zbi_f (by omega)]; exact ⟨rfl, rfl, rfl, rfl⟩) | (rw [if_neg h76, if_pos h85, zbi_t (by omega)]; exact ⟨rfl, rfl, rfl, rfl⟩) | (rw [if_neg h76, if_pos h85, zbi_f (by omega)]; exact ⟨rfl, rfl, rfl, rfl⟩)
            · refine z_iconst eX12_plain_135 ?_
              refine z_goto eX12_plain_136 (tgt := 140) rfl ?_
              refine z_zreturn eX12_plain_140 rfl (by first | exact Or.inl rfl | exact Or.inr rfl | exact zbi_01 _ | assumption | omega) ?_
              first | exact absurd h76 h114 | exact absurd h114 h76 | (rw [if_pos h76, zbi_t (by omega)]; exact ⟨rfl, rfl, rfl, rfl⟩) | (rw [if_pos h76, zbi_f (by omega)]; exact ⟨rfl, rfl, rfl, rfl⟩) | (rw [if_neg h76, if_pos h85, zbi_t (by omega)]; exact ⟨rfl, rfl, rfl, rfl⟩) | (rw [if_neg h76, if_pos h85, zbi_f (by omega)]; exact ⟨rfl, rfl, rfl, rfl⟩)
          · refine z_il1 eX12_plain_117 ?_
            refine z_il3 eX12_plain_118 ?_
            refine z_icmp_ge (tgt := 126) eX12_plain_119 rfl ⟨⟨by omega, by omega⟩, ⟨by omega, by omega⟩⟩ (fun h119 => ?_) (fun h119 => ?_)
            · refine z_iconst eX12_plain_126 ?_
              refine z_goto eX12_plain_127 (tgt := 140) rfl ?_
              refine z_zreturn eX12_plain_140 rfl (by first | exact Or.inl rfl | exact Or.inr rfl | exact zbi_01 _ | assumption | omega) ?_
              first | exact absurd h76 h114 | exact absurd h114 h76 | (rw [if_pos h76, zbi_t (by omega)]; exact ⟨rfl, rfl, rfl, rfl⟩) | (rw [if_pos h76, zbi_f (by omega)]; exact ⟨rfl, rfl, rfl, rfl⟩) | (rw [if_neg h76, if_pos h85, zbi_t (by omega)]; exact ⟨rfl, rfl, rfl, rfl⟩) | (rw [if_neg h76, if_pos h85, zbi_f (by omega)]; exact ⟨rfl, rfl, rfl, rfl⟩)
            · refine z_iconst eX12_plain_122 ?_
              refine z_goto eX12_plain_123 (tgt := 140) rfl ?_
              refine z_zreturn eX12_plain_140 rfl (by first | exact Or.inl rfl | exact Or.inr rfl | exact zbi_01 _ | assumption | omega) ?_
              first | exact absurd h76 h114 | exact absurd h114 h76 | (rw [if_pos h76, zbi_t (by omega)]; exact ⟨rfl, rfl, rfl, rfl⟩) | (rw [if_pos h76, zbi_f (by omega)]; exact ⟨rfl, rfl, rfl, rfl⟩) | (rw [if_neg h76, if_pos h85, zbi_t (by omega)]; exact ⟨rfl, rfl, rfl, rfl⟩) | (rw [if_neg h76, if_pos h85, zbi_f (by omega)]; exact ⟨rfl, rfl, rfl, rfl⟩)
        · refine z_al0 eX12_plain_88 hR.ne ?_
          refine z_al0 eX12_plain_89 hR.ne ?_
          refine z_rg (j := 11) lX12_71 eX12_plain_90 rfl hR rfl rfl ?_
          rw [pS_11]
          refine z_V1v eX12_plain_93 vX12_97 rfl rfl (Nat.le_of_ble_eq_true rfl) (Nat.le_of_ble_eq_true rfl) hR.x (p_X12_wrong hR ⟨by omega, by omega⟩) ?_
          rw [if_pos rfl]
          refine z_iconst eX12_plain_96 ?_
          refine z_zreturn eX12_plain_97 rfl (by first | exact Or.inl rfl | exact Or.inr rfl | exact zbi_01 _ | assumption | omega) ?_
          rw [if_neg h76, if_neg h85]; exact ⟨rfl, rfl, rfl, rfl⟩
    · refine z_iconst eX12_plain_66 ?_
      refine z_zreturn eX12_plain_67 rfl (by first | exact Or.inl rfl | exact Or.inr rfl | exact zbi_01 _ | assumption | omega) ?_
      rw [if_neg h63]; exact ⟨rfl, rfl, rfl, rfl⟩
  unfold qPlain
  refine z_al0 eX12_plain_0 hR.ne ?_
  refine z_ldcS (t := 64) eX12_plain_1 rfl rfl rfl (by rw [(hS 64 _ rfl).1]) ?_
  refine z_V1 eX12_plain_3 vX12_101 rfl rfl (Nat.le_of_ble_eq_true rfl) (Nat.le_of_ble_eq_true rfl) hR.x (p_has hR hS (t := 64) (w := qw_hat) (n := 3) rfl rfl hT ⟨by omega, by omega⟩ (b := b) (by first | exact hb | exact hbb | assumption)) ?_
  refine z_ifh_eq (tgt := 14) eX12_plain_6 rfl (fun h6 => ?_) (fun h6 => ?_)
  · rw [zif_f h6]
    refine z_al0 eX12_plain_14 hR.ne ?_
    refine z_ldcS (t := 65) eX12_plain_15 rfl rfl rfl (by rw [(hS 65 _ rfl).1]) ?_
    refine z_V1 eX12_plain_17 vX12_101 rfl rfl (Nat.le_of_ble_eq_true rfl) (Nat.le_of_ble_eq_true rfl) hR.x (p_has hR hS (t := 65) (w := qw_wet) (n := 3) rfl rfl hT ⟨by omega, by omega⟩ (b := b) (by first | exact hb | exact hbb | assumption)) ?_
    refine z_ifh_eq (tgt := 39) eX12_plain_20 rfl (fun h20 => ?_) (fun h20 => ?_)
    · rw [zif_f h20]
      refine z_al0 eX12_plain_39 hR.ne ?_
      refine z_ldcS (t := 66) eX12_plain_40 rfl rfl rfl (by rw [(hS 66 _ rfl).1]) ?_
      refine z_V1 eX12_plain_42 vX12_101 rfl rfl (Nat.le_of_ble_eq_true rfl) (Nat.le_of_ble_eq_true rfl) hR.x (p_has hR hS (t := 66) (w := qw_mover) (n := 5) rfl rfl hT ⟨by omega, by omega⟩ (b := b) (by first | exact hb | exact hbb | assumption)) ?_
      refine z_ifh_eq (tgt := 53) eX12_plain_45 rfl (fun h45 => ?_) (fun h45 => ?_)
      · rw [zif_f h45]; exact w53
      · rw [zif_t h45]
        refine z_al0 eX12_plain_48 hR.ne ?_
        refine z_rg (j := 16) lX12_225 eX12_plain_49 rfl hR rfl rfl ?_
        rw [pS_f (by decide) (by decide)]
        refine z_zreturn eX12_plain_52 rfl hV ?_
        first | exact ⟨rfl, rfl, rfl, rfl⟩ | exact zRb1 (by omega) | exact zRb0 (by omega) | exact zRe (by omega)
    · rw [zif_t h20]
      refine z_al0 eX12_plain_23 hR.ne ?_
      refine z_ra lX12_29 eX12_plain_24 rfl hR rfl ?_
      refine z_iconst eX12_plain_27 ?_
      refine z_rl eX12_plain_28 hR (by decide) rfl rfl ⟨by omega, by omega⟩ ?_
      first | rw [pS_1M] | rw [pS_1] | skip
      rw [pS_o (by decide)]
      refine z_iconst eX12_plain_29 ?_
      refine z_icmp_le (tgt := 37) eX12_plain_30 rfl ⟨⟨by omega, by omega⟩, ⟨by omega, by omega⟩⟩ (fun h30 => ?_) (fun h30 => ?_)
      · refine z_iconst eX12_plain_37 ?_
        refine z_zreturn eX12_plain_38 rfl (by first | exact Or.inl rfl | exact Or.inr rfl | exact zbi_01 _ | assumption | omega) ?_
        first | exact zRb1 (by omega) | exact zRb0 (by omega)
      · refine z_iconst eX12_plain_33 ?_
        refine z_goto eX12_plain_34 (tgt := 38) rfl ?_
        refine z_zreturn eX12_plain_38 rfl (by first | exact Or.inl rfl | exact Or.inr rfl | exact zbi_01 _ | assumption | omega) ?_
        first | exact zRb1 (by omega) | exact zRb0 (by omega)
  · rw [zif_t h6]
    refine z_al0 eX12_plain_9 hR.ne ?_
    refine z_rg (j := 15) lX12_219 eX12_plain_10 rfl hR rfl rfl ?_
    rw [pS_f (by decide) (by decide)]
    refine z_zreturn eX12_plain_13 rfl hH ?_
    first | exact ⟨rfl, rfl, rfl, rfl⟩ | exact zRb1 (by omega) | exact zRb0 (by omega) | exact zRe (by omega)
