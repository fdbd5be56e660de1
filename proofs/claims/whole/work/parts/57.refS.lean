/-! Atoms of a condition, n deeper ones being allowed. -/
/-- what lies in brackets -/
noncomputable def qBrk (T : Int → Int) (e : Int) (r : Int × Int × Int) : Int × Int × Int :=
  if r.2.2 = -1 then (if qscan qbl T e r.2.1 < e ∧ T (qscan qbl T e r.2.1) = 41 then (r.1, qscan qbl T e r.2.1 + 1, -1) else (r.1, qscan qbl T e r.2.1 + 1, qscan qbl T e r.2.1)) else (r.1, r.2.1 + 1, r.2.2)
noncomputable def qAtom (T : Int → Int) (e : Int) (F : Int → Int) (H V : Int) : Nat → Int → Int × Int × Int
  | 0, a => zif (qhas T e (qscan qbl T e a) qw_not) (0, qscan qbl T e a + 3, qscan qbl T e a) (if qscan qbl T e a < e ∧ T (qscan qbl T e a) = 40 then (0, qscan qbl T e a, qscan qbl T e a) else qPlain T e F H V (qscan qbl T e a))
  | n + 1, a => zif (qhas T e (qscan qbl T e a) qw_not) (1 - (qAtom T e F H V n (qscan qbl T e a + 3)).1, (qAtom T e F H V n (qscan qbl T e a + 3)).2) (if qscan qbl T e a < e ∧ T (qscan qbl T e a) = 40 then qBrk T e (qSm T e (qAtom T e F H V n) (qscan qbl T e a + 1)) else qPlain T e F H V (qscan qbl T e a))
theorem qAtom_bd {T : Int → Int} {e H V : Int} {F : Int → Int} (hF : zFact F) (hH : H = 0 ∨ H = 1) (hV : V = 0 ∨ V = 1) (he : e ≤ 400) (hT : ∀ k, 0 ≤ k → k < 400 → 0 ≤ T k) : ∀ (n : Nat) (a : Int), 0 ≤ a → a ≤ e → qC e n a (qAtom T e F H V n a) := by
  intro n
  induction n with
  | zero =>
    intro a h0 h1
    have hb := qskip_bd (T := T) h1
    unfold qAtom
    generalize qscan qbl T e a = b at hb ⊢
    by_cases hw : qhas T e b qw_not
    · rw [zif_t hw]
      have hl : b + 3 ≤ e := qhas_bd hw hb.2
      exact qC.mk' (by dsimp only [qAt]; omega) (by omega) (Or.inl rfl) (by dsimp only; omega)
    · rw [zif_f hw]
      split
      · exact qC.mk' (by dsimp only [qAt]; omega) (by omega) (Or.inl rfl) (by dsimp only; omega)
      · have := qPlain_bd (T := T) (n := 0) hF hH hV ⟨show 0 ≤ b by omega, hb.2⟩ he hT (by decide)
        exact ⟨this.1, this.2.1, Int.le_trans hb.1 this.2.2⟩
  | succ n ih =>
    intro a h0 h1
    have hb := qskip_bd (T := T) h1
    unfold qAtom
    generalize qscan qbl T e a = b at hb ⊢
    by_cases hw : qhas T e b qw_not
    · rw [zif_t hw]
      have hl : b + 3 ≤ e := qhas_bd hw hb.2
      have hr := ih (b + 3) (by omega) hl
      generalize qAtom T e F H V n (b + 3) = r at hr ⊢
      obtain ⟨⟨c1, c2, c3, c4, c5⟩, c6, c7⟩ := hr
      exact ⟨⟨c1, by show r.2.1 ≤ _; omega, c3, c4, c5⟩, by dsimp only; omega, by show a ≤ r.2.1; omega⟩
    · rw [zif_f hw]
      split
      · have hr := qSm_bd (T := T) (e := e) (n := n) (by omega) ih (b + 1) (by omega) (by omega)
        generalize qSm T e (qAtom T e F H V n) (b + 1) = r at hr ⊢
        obtain ⟨⟨c1, c2, c3, c4, c5⟩, c6, c7⟩ := hr
        unfold qBrk
        by_cases hf : r.2.2 = -1
        · rw [if_pos hf]
          have hc := qskip_bd (T := T) (c3 hf)
          generalize qscan qbl T e r.2.1 = c at hc ⊢
          split
          · exact ⟨⟨by show 0 ≤ c + 1; omega, by show c + 1 ≤ _; omega, fun _ => by show c + 1 ≤ e; omega, by show (-1 : Int) ≤ -1; decide, by show (-1 : Int) ≤ 400; decide⟩, c6, by show a ≤ c + 1; omega⟩
          · exact ⟨⟨by show 0 ≤ c + 1; omega, by show c + 1 ≤ _; omega, fun z => by have : c = -1 := z; omega, by show (-1 : Int) ≤ c; omega, by show c ≤ 400; omega⟩, c6, by show a ≤ c + 1; omega⟩
        · rw [if_neg hf]
          exact ⟨⟨by show 0 ≤ r.2.1 + 1; omega, by show r.2.1 + 1 ≤ _; omega, fun z => absurd z hf, c4, c5⟩, c6, by show a ≤ r.2.1 + 1; omega⟩
      · have := qPlain_bd (T := T) (n := ((n + 1 : Nat) : Int)) hF hH hV ⟨show 0 ≤ b by omega, hb.2⟩ he hT (by omega)
        exact ⟨this.1, this.2.1, Int.le_trans hb.1 this.2.2⟩
/-- the depth is told and taken back -/
theorem zdeep (σ : zMem) : ∃ s : zMem, zset σ 0 13 (σ 0 13 + 1) = s ∧ zset s 0 13 (s 0 13 - 1) = σ ∧ (LwH σ → LwH s) ∧ (TxI σ → rT s = rT σ) ∧ s 0 10 = σ 0 10 ∧ s 6 = σ 6 ∧ s 0 15 = σ 0 15 ∧ s 0 16 = σ 0 16 ∧ s 0 13 = σ 0 13 + 1 := by
  have e13 : zset σ 0 13 (σ 0 13 + 1) 0 13 = σ 0 13 + 1 := by simp [zset_at]
  have e6 : zset σ 0 13 (σ 0 13 + 1) 6 = σ 6 := by funext j; simp [zset_at]
  have e15 : zset σ 0 13 (σ 0 13 + 1) 0 15 = σ 0 15 := by simp [zset_at]
  have e16 : zset σ 0 13 (σ 0 13 + 1) 0 16 = σ 0 16 := by simp [zset_at]
  have hT : TxI σ → TxI (zset σ 0 13 (σ 0 13 + 1)) ∧ rT (zset σ 0 13 (σ 0 13 + 1)) = rT σ := fun h => h.of (by simp [zset_at]) (by simp [zset_at]) (by funext j; simp [zset_at]) (by funext j; simp [zset_at])
  refine ⟨_, rfl, ?_, fun h => ⟨(hT h.1).1, by rw [e6]; exact h.2.1, by rw [e15]; exact h.2.2.1, by rw [e16]; exact h.2.2.2⟩, fun h => (hT h).2, by simp [zset_at], e6, e15, e16, e13⟩
  rw [e13, zset_zset, show σ 0 13 + 1 - 1 = σ 0 13 by omega, zset_self]
theorem p_atom {G : zG} {lay : zLay} {C0 : zMem} {nx x : Int} (hR : RefL lay x) (hS : TxS lay C0) : ∀ (n : Nat) (σ : zMem), n ≤ 6 → LwH σ → σ 0 13 = 6 - n → zRd G (42 + 3 * n) KX12_atom lay σ C0 nx x (qAtom (rT σ) (σ 0 10) (σ 6) (σ 0 15) (σ 0 16) n) := by
  intro n
  induction n with
  | zero =>
    intro σ hn hL hd a ha0 ha1
    have hT := hL.1
    have he : σ 0 10 ≤ 400 := hT.2.2.1
    unfold qAtom
    have hb := qskip_bd (T := rT σ) ha1
    have hbb := qskip_idem (T := rT σ) (e := σ 0 10) (a := a)
    generalize hq : qscan qbl (rT σ) (σ 0 10) a = b at hb hbb ⊢
    generalize hQ : zR _ _ _ _ = Q
    refine z_met' (L := [zP x, zU, zU, zU]) gX12_atom.1 rfl rfl (Nat.le_of_ble_eq_true rfl) rfl ?_
    have wn : qhas (rT σ) (σ 0 10) b qw_not → zW G KX12_atom (42 + 3 * 0) Q 22 [zP x, zI b, zI 1, zU] [] lay (rC x (pS σ (b + 3) (-1)) C0) nx (0, 0) := by
      intro hw
      subst hQ
      rw [zif_t hw]
      refine z_il2 eX12_atom_22 ?_
      refine z_if_ne (tgt := 40) eX12_atom_23 rfl ⟨by omega, by omega⟩ (fun h23 => ?_) (fun h23 => (by exfalso; omega))
      refine z_al0 eX12_atom_40 hR.ne ?_
      refine z_rg (j := 13) lX12_187 eX12_atom_41 rfl hR rfl rfl ?_
      rw [pS_13]
      refine z_bipush eX12_atom_44 (by decide) ?_
      refine z_icmp_ne (tgt := 56) eX12_atom_46 rfl ⟨⟨by omega, by omega⟩, ⟨by omega, by omega⟩⟩ (fun h46 => (by exfalso; omega)) (fun h46 => ?_)
      refine z_al0 eX12_atom_49 hR.ne ?_
      refine z_il1 eX12_atom_50 ?_
      refine z_V1v eX12_atom_51 vX12_97 rfl rfl (Nat.le_of_ble_eq_true rfl) (Nat.le_of_ble_eq_true rfl) hR.x (p_X12_wrong hR ⟨by omega, by omega⟩) ?_
      rw [if_pos rfl]
      refine z_iconst eX12_atom_54 ?_
      refine z_zreturn eX12_atom_55 rfl (by first | exact Or.inl rfl | exact Or.inr rfl | exact zbi_01 _ | assumption | omega) ?_
      first | exact ⟨rfl, rfl, rfl, rfl⟩ | exact zRb1 (by omega) | exact zRb0 (by omega) | exact zRe (by omega)
    have wo : ¬ qhas (rT σ) (σ 0 10) b qw_not → zW G KX12_atom (42 + 3 * 0) Q 22 [zP x, zI b, zI 0, zU] [] lay (rC x (pS σ b (-1)) C0) nx (0, 0) := by
      intro hw
      subst hQ
      rw [zif_f hw]
      refine z_il2 eX12_atom_22 ?_
      refine z_if_ne (tgt := 40) eX12_atom_23 rfl ⟨by omega, by omega⟩ (fun h23 => (by exfalso; omega)) (fun h23 => ?_)
      refine z_al0 eX12_atom_26 hR.ne ?_
      refine z_bipush eX12_atom_27 (by decide) ?_
      refine z_V1 eX12_atom_29 vX12_196 rfl rfl (Nat.le_of_ble_eq_true rfl) (Nat.le_of_ble_eq_true rfl) hR.x (p_X12_isSign hR hT ⟨by omega, by omega⟩ (by decide)) ?_
      rw [hbb]
      refine z_ifb_ne (tgt := 40) eX12_atom_32 rfl (fun h32 => ?_) (fun h32 => ?_)
      · refine z_al0 eX12_atom_40 hR.ne ?_
        refine z_rg (j := 13) lX12_187 eX12_atom_41 rfl hR rfl rfl ?_
        rw [pS_13]
        refine z_bipush eX12_atom_44 (by decide) ?_
        refine z_icmp_ne (tgt := 56) eX12_atom_46 rfl ⟨⟨by omega, by omega⟩, ⟨by omega, by omega⟩⟩ (fun h46 => (by exfalso; omega)) (fun h46 => ?_)
        refine z_al0 eX12_atom_49 hR.ne ?_
        refine z_il1 eX12_atom_50 ?_
        refine z_V1v eX12_atom_51 vX12_97 rfl rfl (Nat.le_of_ble_eq_true rfl) (Nat.le_of_ble_eq_true rfl) hR.x (p_X12_wrong hR ⟨by omega, by omega⟩) ?_
        rw [if_pos rfl]
        refine z_iconst eX12_atom_54 ?_
        refine z_zreturn eX12_atom_55 rfl (by first | exact Or.inl rfl | exact Or.inr rfl | exact zbi_01 _ | assumption | omega) ?_
        rw [if_pos h32]; exact ⟨rfl, rfl, rfl, rfl⟩
      · refine z_al0 eX12_atom_35 hR.ne ?_
        refine z_V0 eX12_atom_36 vX12_233 rfl rfl (Nat.le_of_ble_eq_true rfl) (Nat.le_of_ble_eq_true rfl) hR.x (p_X12_plain hR hS hL ⟨by omega, hb.2⟩ hbb) ?_
        refine z_zreturn eX12_atom_39 rfl (qPlain_bd (n := 0) hL.2.1 hL.2.2.1 hL.2.2.2 ⟨by omega, hb.2⟩ he hT.p (by decide)).2.1 ?_
        rw [if_neg h32]; exact ⟨rfl, rfl, rfl, rfl⟩
    refine z_al0 eX12_atom_0 hR.ne ?_
    refine z_rg (j := 12) lX12_25 eX12_atom_1 rfl hR rfl rfl ?_
    rw [pS_12]
    refine z_iconst eX12_atom_4 ?_
    refine z_icmp_eq (tgt := 10) eX12_atom_5 rfl ⟨⟨by omega, by omega⟩, ⟨by omega, by omega⟩⟩ (fun h5 => ?_) (fun h5 => (by exfalso; omega))
    refine z_al0 eX12_atom_10 hR.ne ?_
    refine z_V0 eX12_atom_11 vX12_94 rfl rfl (Nat.le_of_ble_eq_true rfl) (Nat.le_of_ble_eq_true rfl) hR.x (p_X12_here hR hT ⟨by omega, by omega⟩) ?_
    rw [hq]
    refine z_is1 eX12_atom_14 (Nat.ne_of_beq_eq_false rfl) ?_
    refine z_al0 eX12_atom_15 hR.ne ?_
    refine z_ldcS (t := 63) eX12_atom_16 rfl rfl rfl (by rw [(hS 63 _ rfl).1]) ?_
    refine z_V1 eX12_atom_18 vX12_101 rfl rfl (Nat.le_of_ble_eq_true rfl) (Nat.le_of_ble_eq_true rfl) hR.x (p_has hR hS (t := 63) (w := qw_not) (n := 3) rfl rfl hT ⟨by omega, by omega⟩ (b := b) (by first | exact hb | exact hbb | assumption)) ?_
    refine z_is2 eX12_atom_21 (Nat.ne_of_beq_eq_false rfl) ?_
    by_cases hw : qhas (rT σ) (σ 0 10) b qw_not
    · rw [zbi_t hw, Int.mul_one]; exact wn hw
    · rw [zbi_f hw, Int.mul_zero, Int.add_zero]; exact wo hw
  | succ n ih =>
    intro σ hn hL hd a ha0 ha1
    have hT := hL.1
    have he : σ 0 10 ≤ 400 := hT.2.2.1
    obtain ⟨s, hs1, hs2, hs3, hs4, hs5, hs6, hs7, hs8, hs9⟩ := zdeep σ
    have hLs := hs3 hL
    have hTs := hLs.1
    have hA := ih s (by omega) hLs (by omega)
    have hB := qAtom_bd (T := rT s) (e := s 0 10) hLs.2.1 hLs.2.2.1 hLs.2.2.2 hTs.2.2.1 hTs.p n
    have hE := p_every hR hS hTs (by omega) hA hB
    have hSm := p_some (by omega) hR hS hTs (by omega) hE hB
    have hBs := qSm_bd (T := rT s) (by omega) hB
    rw [hs4 hT, hs5, hs6, hs7, hs8] at hA hB hSm hBs
    unfold zRd at hA hSm
    rw [hs5] at hA hSm
    unfold qAtom
    have hb := qskip_bd (T := rT σ) ha1
    have hbb := qskip_idem (T := rT σ) (e := σ 0 10) (a := a)
    generalize hq : qscan qbl (rT σ) (σ 0 10) a = b at hb hbb ⊢
    refine z_met' (L := [zP x, zU, zU, zU]) gX12_atom.1 rfl rfl (Nat.le_of_ble_eq_true rfl) rfl ?_
    have wn : qhas (rT σ) (σ 0 10) b qw_not → zW G KX12_atom (42 + 3 * (n + 1)) (zR (some (zI (1 - (qAtom (rT σ) (σ 0 10) (σ 6) (σ 0 15) (σ 0 16) n (b + 3)).1))) lay (rC x (pS σ (qAtom (rT σ) (σ 0 10) (σ 6) (σ 0 15) (σ 0 16) n (b + 3)).2.1 (qAtom (rT σ) (σ 0 10) (σ 6) (σ 0 15) (σ 0 16) n (b + 3)).2.2) C0) nx) 22 [zP x, zI b, zI 1, zU] [] lay (rC x (pS σ (b + 3) (-1)) C0) nx (0, 0) := by
      intro hw
      have hl : b + 3 ≤ σ 0 10 := qhas_bd hw hb.2
      have hr := hB (b + 3) (by omega) hl
      have hA2 := hA (b + 3) (by omega) hl
      generalize qAtom (rT σ) (σ 0 10) (σ 6) (σ 0 15) (σ 0 16) n (b + 3) = r at hr hA2 ⊢
      obtain ⟨-, c6, -⟩ := hr
      refine z_il2 eX12_atom_22 ?_
      refine z_if_ne (tgt := 40) eX12_atom_23 rfl ⟨by omega, by omega⟩ (fun h23 => ?_) (fun h23 => (by exfalso; omega))
      refine z_al0 eX12_atom_40 hR.ne ?_
      refine z_rg (j := 13) lX12_187 eX12_atom_41 rfl hR rfl rfl ?_
      rw [pS_13]
      refine z_bipush eX12_atom_44 (by decide) ?_
      refine z_icmp_ne (tgt := 56) eX12_atom_46 rfl ⟨⟨by omega, by omega⟩, ⟨by omega, by omega⟩⟩ (fun h46 => ?_) (fun h46 => (by exfalso; omega))
      refine z_al0 eX12_atom_56 hR.ne ?_
      refine z_dup eX12_atom_57 (Nat.ne_of_beq_eq_false rfl) ?_
      refine z_rg (j := 13) lX12_187 eX12_atom_58 rfl hR rfl rfl ?_
      rw [pS_13]
      refine z_iconst eX12_atom_61 ?_
      refine z_iadd eX12_atom_62 ?_
      refine z_rp (j := 13) lX12_187 eX12_atom_63 rfl hR rfl rfl ?_
      rw [pS_sf (by decide) (by decide)]
      rw [hs1]
      refine z_iconst eX12_atom_66 ?_
      refine z_is3 eX12_atom_67 (Nat.ne_of_beq_eq_false rfl) ?_
      refine z_il2 eX12_atom_68 ?_
      refine z_if_eq (tgt := 88) eX12_atom_69 rfl ⟨by omega, by omega⟩ (fun h69 => (by exfalso; omega)) (fun h69 => ?_)
      refine z_al0 eX12_atom_72 hR.ne ?_
      refine z_V0 eX12_atom_73 vX12_237 rfl rfl (by omega) (Nat.le_of_ble_eq_true rfl) hR.x (hA2 ) ?_
      refine z_if_ne (tgt := 83) eX12_atom_76 rfl ⟨by omega, by omega⟩ (fun h76 => ?_) (fun h76 => ?_)
      · refine z_iconst eX12_atom_83 ?_
        refine z_is3 eX12_atom_84 (Nat.ne_of_beq_eq_false rfl) ?_
        refine z_goto eX12_atom_85 (tgt := 138) rfl ?_
        refine z_al0 eX12_atom_138 hR.ne ?_
        refine z_dup eX12_atom_139 (Nat.ne_of_beq_eq_false rfl) ?_
        refine z_rg (j := 13) lX12_187 eX12_atom_140 rfl hR rfl rfl ?_
        rw [pS_13]
        refine z_iconst eX12_atom_143 ?_
        refine z_isub eX12_atom_144 ?_
        refine z_rp (j := 13) lX12_187 eX12_atom_145 rfl hR rfl rfl ?_
        rw [pS_sf (by decide) (by decide)]
        rw [hs2]
        refine z_il3 eX12_atom_148 ?_
        refine z_zreturn eX12_atom_149 rfl (by first | exact Or.inl rfl | exact Or.inr rfl | exact zbi_01 _ | assumption | omega) ?_
        exact zRe (by omega)
      · refine z_iconst eX12_atom_79 ?_
        refine z_goto eX12_atom_80 (tgt := 84) rfl ?_
        refine z_is3 eX12_atom_84 (Nat.ne_of_beq_eq_false rfl) ?_
        refine z_goto eX12_atom_85 (tgt := 138) rfl ?_
        refine z_al0 eX12_atom_138 hR.ne ?_
        refine z_dup eX12_atom_139 (Nat.ne_of_beq_eq_false rfl) ?_
        refine z_rg (j := 13) lX12_187 eX12_atom_140 rfl hR rfl rfl ?_
        rw [pS_13]
        refine z_iconst eX12_atom_143 ?_
        refine z_isub eX12_atom_144 ?_
        refine z_rp (j := 13) lX12_187 eX12_atom_145 rfl hR rfl rfl ?_
        rw [pS_sf (by decide) (by decide)]
        rw [hs2]
        refine z_il3 eX12_atom_148 ?_
        refine z_zreturn eX12_atom_149 rfl (by first | exact Or.inl rfl | exact Or.inr rfl | exact zbi_01 _ | assumption | omega) ?_
        exact zRe (by omega)
    have wo : ¬ qhas (rT σ) (σ 0 10) b qw_not → zW G KX12_atom (42 + 3 * (n + 1)) (zR (some (zI (if b < σ 0 10 ∧ rT σ b = 40 then qBrk (rT σ) (σ 0 10) (qSm (rT σ) (σ 0 10) (qAtom (rT σ) (σ 0 10) (σ 6) (σ 0 15) (σ 0 16) n) (b + 1)) else qPlain (rT σ) (σ 0 10) (σ 6) (σ 0 15) (σ 0 16) b).1)) lay (rC x (pS σ (if b < σ 0 10 ∧ rT σ b = 40 then qBrk (rT σ) (σ 0 10) (qSm (rT σ) (σ 0 10) (qAtom (rT σ) (σ 0 10) (σ 6) (σ 0 15) (σ 0 16) n) (b + 1)) else qPlain (rT σ) (σ 0 10) (σ 6) (σ 0 15) (σ 0 16) b).2.1 (if b < σ 0 10 ∧ rT σ b = 40 then qBrk (rT σ) (σ 0 10) (qSm (rT σ) (σ 0 10) (qAtom (rT σ) (σ 0 10) (σ 6) (σ 0 15) (σ 0 16) n) (b + 1)) else qPlain (rT σ) (σ 0 10) (σ 6) (σ 0 15) (σ 0 16) b).2.2) C0) nx) 22 [zP x, zI b, zI 0, zU] [] lay (rC x (pS σ b (-1)) C0) nx (0, 0) := by
      intro hw
      have hr : b < σ 0 10 → _ := fun z => hBs (b + 1) (by omega) (by omega)
      have hS2 : b < σ 0 10 → _ := fun z => hSm (b + 1) (by omega) (by omega)
      generalize qSm (rT σ) (σ 0 10) (qAtom (rT σ) (σ 0 10) (σ 6) (σ 0 15) (σ 0 16) n) (b + 1) = r at hr hS2 ⊢
      unfold qBrk
      refine z_il2 eX12_atom_22 ?_
      refine z_if_ne (tgt := 40) eX12_atom_23 rfl ⟨by omega, by omega⟩ (fun h23 => (by exfalso; omega)) (fun h23 => ?_)
      refine z_al0 eX12_atom_26 hR.ne ?_
      refine z_bipush eX12_atom_27 (by decide) ?_
      refine z_V1 eX12_atom_29 vX12_196 rfl rfl (by omega) (Nat.le_of_ble_eq_true rfl) hR.x (p_X12_isSign hR hT ⟨by omega, by omega⟩ (by decide)) ?_
      rw [hbb]
      refine z_ifb_ne (tgt := 40) eX12_atom_32 rfl (fun h32 => ?_) (fun h32 => ?_)
      · refine z_al0 eX12_atom_40 hR.ne ?_
        refine z_rg (j := 13) lX12_187 eX12_atom_41 rfl hR rfl rfl ?_
        rw [pS_13]
        refine z_bipush eX12_atom_44 (by decide) ?_
        refine z_icmp_ne (tgt := 56) eX12_atom_46 rfl ⟨⟨by omega, by omega⟩, ⟨by omega, by omega⟩⟩ (fun h46 => ?_) (fun h46 => (by exfalso; omega))
        refine z_al0 eX12_atom_56 hR.ne ?_
        refine z_dup eX12_atom_57 (Nat.ne_of_beq_eq_false rfl) ?_
        refine z_rg (j := 13) lX12_187 eX12_atom_58 rfl hR rfl rfl ?_
        rw [pS_13]
        refine z_iconst eX12_atom_61 ?_
        refine z_iadd eX12_atom_62 ?_
        refine z_rp (j := 13) lX12_187 eX12_atom_63 rfl hR rfl rfl ?_
        rw [pS_sf (by decide) (by decide)]
        rw [hs1]
        refine z_iconst eX12_atom_66 ?_
        refine z_is3 eX12_atom_67 (Nat.ne_of_beq_eq_false rfl) ?_
        refine z_il2 eX12_atom_68 ?_
        refine z_if_eq (tgt := 88) eX12_atom_69 rfl ⟨by omega, by omega⟩ (fun h69 => ?_) (fun h69 => (by exfalso; omega))
        refine z_al0 eX12_atom_88 hR.ne ?_
        refine z_dup eX12_atom_89 (Nat.ne_of_beq_eq_false rfl) ?_
        refine z_rg (j := 11) lX12_71 eX12_atom_90 rfl hR rfl rfl ?_
        rw [pS_11]
        refine z_iconst eX12_atom_93 ?_
        refine z_iadd eX12_atom_94 ?_
        refine z_rp (j := 11) lX12_71 eX12_atom_95 rfl hR rfl rfl ?_
        rw [pS_s11]
        obtain ⟨⟨c1, c2, c3, c4, c5⟩, c6, c7⟩ := hr h32.1
        rw [if_pos h32]
        refine z_al0 eX12_atom_98 hR.ne ?_
        refine z_V0 eX12_atom_99 vX12_240 rfl rfl (by omega) (Nat.le_of_ble_eq_true rfl) hR.x (hS2 (by omega)) ?_
        refine z_is3 eX12_atom_102 (Nat.ne_of_beq_eq_false rfl) ?_
        refine z_al0 eX12_atom_103 hR.ne ?_
        refine z_rg (j := 12) lX12_25 eX12_atom_104 rfl hR rfl rfl ?_
        rw [pS_12]
        refine z_iconst eX12_atom_107 ?_
        refine z_icmp_ne (tgt := 128) eX12_atom_108 rfl ⟨⟨by omega, by omega⟩, ⟨by omega, by omega⟩⟩ (fun h108 => ?_) (fun h108 => ?_)
        · first | rw [if_pos h108] | skip
          refine z_al0 eX12_atom_128 hR.ne ?_
          refine z_dup eX12_atom_129 (Nat.ne_of_beq_eq_false rfl) ?_
          refine z_rg (j := 11) lX12_71 eX12_atom_130 rfl hR rfl rfl ?_
          rw [pS_11]
          refine z_iconst eX12_atom_133 ?_
          refine z_iadd eX12_atom_134 ?_
          refine z_rp (j := 11) lX12_71 eX12_atom_135 rfl hR rfl rfl ?_
          rw [pS_s11]
          refine z_al0 eX12_atom_138 hR.ne ?_
          refine z_dup eX12_atom_139 (Nat.ne_of_beq_eq_false rfl) ?_
          refine z_rg (j := 13) lX12_187 eX12_atom_140 rfl hR rfl rfl ?_
          rw [pS_13]
          refine z_iconst eX12_atom_143 ?_
          refine z_isub eX12_atom_144 ?_
          refine z_rp (j := 13) lX12_187 eX12_atom_145 rfl hR rfl rfl ?_
          rw [pS_sf (by decide) (by decide)]
          rw [hs2]
          refine z_il3 eX12_atom_148 ?_
          refine z_zreturn eX12_atom_149 rfl (by first | exact Or.inl rfl | exact Or.inr rfl | exact zbi_01 _ | assumption | omega) ?_
          first | (rw [if_neg h108]; exact ⟨rfl, rfl, rfl, rfl⟩) | (rw [if_pos h117, h108]; exact ⟨rfl, rfl, rfl, rfl⟩) | (rw [if_neg h117]; exact ⟨rfl, rfl, rfl, rfl⟩)
        · rw [if_pos h108]
          refine z_al0 eX12_atom_111 hR.ne ?_
          refine z_bipush eX12_atom_112 (by decide) ?_
          refine z_V1 eX12_atom_114 vX12_196 rfl rfl (by omega) (Nat.le_of_ble_eq_true rfl) hR.x (p_X12_isSign hR hTs ⟨by omega, by rw [hs5]; exact c3 h108⟩ (by decide)) ?_
          rw [hs4 hT, hs5]
          refine z_ifb_ne (tgt := 128) eX12_atom_117 rfl (fun h117 => ?_) (fun h117 => ?_)
          · first | rw [if_pos h108] | skip
            refine z_al0 eX12_atom_128 hR.ne ?_
            refine z_dup eX12_atom_129 (Nat.ne_of_beq_eq_false rfl) ?_
            refine z_rg (j := 11) lX12_71 eX12_atom_130 rfl hR rfl rfl ?_
            rw [pS_11]
            refine z_iconst eX12_atom_133 ?_
            refine z_iadd eX12_atom_134 ?_
            refine z_rp (j := 11) lX12_71 eX12_atom_135 rfl hR rfl rfl ?_
            rw [pS_s11]
            refine z_al0 eX12_atom_138 hR.ne ?_
            refine z_dup eX12_atom_139 (Nat.ne_of_beq_eq_false rfl) ?_
            refine z_rg (j := 13) lX12_187 eX12_atom_140 rfl hR rfl rfl ?_
            rw [pS_13]
            refine z_iconst eX12_atom_143 ?_
            refine z_isub eX12_atom_144 ?_
            refine z_rp (j := 13) lX12_187 eX12_atom_145 rfl hR rfl rfl ?_
            rw [pS_sf (by decide) (by decide)]
            rw [hs2]
            refine z_il3 eX12_atom_148 ?_
            refine z_zreturn eX12_atom_149 rfl (by first | exact Or.inl rfl | exact Or.inr rfl | exact zbi_01 _ | assumption | omega) ?_
            first | (rw [if_neg h108]; exact ⟨rfl, rfl, rfl, rfl⟩) | (rw [if_pos h117, h108]; exact ⟨rfl, rfl, rfl, rfl⟩) | (rw [if_neg h117]; exact ⟨rfl, rfl, rfl, rfl⟩)
          · refine z_al0 eX12_atom_120 hR.ne ?_
            refine z_al0 eX12_atom_121 hR.ne ?_
            refine z_rg (j := 11) lX12_71 eX12_atom_122 rfl hR rfl rfl ?_
            rw [pS_11]
            refine z_V1v eX12_atom_125 vX12_97 rfl rfl (by omega) (Nat.le_of_ble_eq_true rfl) hR.x (p_X12_wrong hR ⟨by omega, by omega⟩) ?_
            first | rw [if_pos h108] | skip
            refine z_al0 eX12_atom_128 hR.ne ?_
            refine z_dup eX12_atom_129 (Nat.ne_of_beq_eq_false rfl) ?_
            refine z_rg (j := 11) lX12_71 eX12_atom_130 rfl hR rfl rfl ?_
            rw [pS_11]
            refine z_iconst eX12_atom_133 ?_
            refine z_iadd eX12_atom_134 ?_
            refine z_rp (j := 11) lX12_71 eX12_atom_135 rfl hR rfl rfl ?_
            rw [pS_s11]
            refine z_al0 eX12_atom_138 hR.ne ?_
            refine z_dup eX12_atom_139 (Nat.ne_of_beq_eq_false rfl) ?_
            refine z_rg (j := 13) lX12_187 eX12_atom_140 rfl hR rfl rfl ?_
            rw [pS_13]
            refine z_iconst eX12_atom_143 ?_
            refine z_isub eX12_atom_144 ?_
            refine z_rp (j := 13) lX12_187 eX12_atom_145 rfl hR rfl rfl ?_
            rw [pS_sf (by decide) (by decide)]
            rw [hs2]
            refine z_il3 eX12_atom_148 ?_
            refine z_zreturn eX12_atom_149 rfl (by first | exact Or.inl rfl | exact Or.inr rfl | exact zbi_01 _ | assumption | omega) ?_
            first | (rw [if_neg h108]; exact ⟨rfl, rfl, rfl, rfl⟩) | (rw [if_pos h117, h108]; exact ⟨rfl, rfl, rfl, rfl⟩) | (rw [if_neg h117]; exact ⟨rfl, rfl, rfl, rfl⟩)
      · refine z_al0 eX12_atom_35 hR.ne ?_
        refine z_V0 eX12_atom_36 vX12_233 rfl rfl (by omega) (Nat.le_of_ble_eq_true rfl) hR.x (p_X12_plain hR hS hL ⟨by omega, hb.2⟩ hbb) ?_
        refine z_zreturn eX12_atom_39 rfl (qPlain_bd (n := 0) hL.2.1 hL.2.2.1 hL.2.2.2 ⟨by omega, hb.2⟩ he hT.p (by decide)).2.1 ?_
        rw [if_neg h32]; exact ⟨rfl, rfl, rfl, rfl⟩
    refine z_al0 eX12_atom_0 hR.ne ?_
    refine z_rg (j := 12) lX12_25 eX12_atom_1 rfl hR rfl rfl ?_
    rw [pS_12]
    refine z_iconst eX12_atom_4 ?_
    refine z_icmp_eq (tgt := 10) eX12_atom_5 rfl ⟨⟨by omega, by omega⟩, ⟨by omega, by omega⟩⟩ (fun h5 => ?_) (fun h5 => (by exfalso; omega))
    refine z_al0 eX12_atom_10 hR.ne ?_
    refine z_V0 eX12_atom_11 vX12_94 rfl rfl (by omega) (Nat.le_of_ble_eq_true rfl) hR.x (p_X12_here hR hT ⟨by omega, by omega⟩) ?_
    rw [hq]
    refine z_is1 eX12_atom_14 (Nat.ne_of_beq_eq_false rfl) ?_
    refine z_al0 eX12_atom_15 hR.ne ?_
    refine z_ldcS (t := 63) eX12_atom_16 rfl rfl rfl (by rw [(hS 63 _ rfl).1]) ?_
    refine z_V1 eX12_atom_18 vX12_101 rfl rfl (by omega) (Nat.le_of_ble_eq_true rfl) hR.x (p_has hR hS (t := 63) (w := qw_not) (n := 3) rfl rfl hT ⟨by omega, by omega⟩ (b := b) (by first | exact hb | exact hbb | assumption)) ?_
    refine z_is2 eX12_atom_21 (Nat.ne_of_beq_eq_false rfl) ?_
    by_cases hw : qhas (rT σ) (σ 0 10) b qw_not
    · rw [zbi_t hw, Int.mul_one, zif_t hw]; exact wn hw
    · rw [zbi_f hw, Int.mul_zero, Int.add_zero, zif_f hw]; exact wo hw
