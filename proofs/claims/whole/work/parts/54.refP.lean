/-! A sum in the law. -/
theorem qPart_bd {T : Int → Int} {e a f : Int} {F : Int → Int} (hF : zFact F) (h : qAt e a f) (he : e ≤ 400) (hT : ∀ k, 0 ≤ k → k < 400 → 0 ≤ T k) : qAt e (qPart T e F a f).2.1 (qPart T e F a f).2.2 ∧ (0 ≤ (qPart T e F a f).1 ∧ (qPart T e F a f).1 ≤ 9999) ∧ ((qPart T e F a f).2.2 = -1 → f = -1) := by
  unfold qPart
  by_cases hf : f = -1
  · rw [if_pos hf]
    have hb := qskip_bd (T := T) h.2.1
    have h0 := h.1
    generalize qscan qbl T e a = b at hb ⊢
    split
    · have := qFig_bd (T := T) (lo := 0) (hi := 999) (a := b) (f := -1) ⟨by omega, hb.2, by decide, by decide⟩ he hT
      exact ⟨this.1, this.2.2, fun _ => hf⟩
    · have := qPartW_bd (T := T) (e := e) (b := b) hF ⟨by omega, hb.2⟩ he
      exact ⟨this.1, this.2.1, fun _ => hf⟩
  · rw [if_neg hf]
    exact ⟨h, ⟨by show (0 : Int) ≤ 0; decide, by show (0 : Int) ≤ 9999; decide⟩, fun z => z⟩
theorem qFig_le {T : Int → Int} {e lo hi a f : Int} (h : a ≤ e) (hT : ∀ k, a ≤ k → k < e → 0 ≤ T k) : a ≤ (qFig T e lo hi a f).2.1 := by
  unfold qFig
  split
  · have hb := qskip_bd (T := T) h
    have := qfgN_bd (T := T) (e := e) 4 (qscan qbl T e a) 0 (by omega) hb.2 (by omega) (by decide) (fun k z1 z2 => hT k (by omega) z2)
    show a ≤ (qfgN T e 4 (qscan qbl T e a) 0).2
    omega
  · exact Int.le_refl a
theorem qPartW_le {T : Int → Int} {e b : Int} {F : Int → Int} : b ≤ (qPartW T e F b).2.1 := by
  unfold qPartW
  unfold zif
  repeat' split
  all_goals (dsimp only; omega)
theorem qPart_le {T : Int → Int} {e a f : Int} {F : Int → Int} (h : qAt e a f) (he : e ≤ 400) (hT : ∀ k, 0 ≤ k → k < 400 → 0 ≤ T k) : a ≤ (qPart T e F a f).2.1 := by
  unfold qPart
  by_cases hf : f = -1
  · rw [if_pos hf]
    have hb := qskip_bd (T := T) h.2.1
    have h0 := h.1
    generalize qscan qbl T e a = b at hb ⊢
    split
    · have := qFig_le (T := T) (lo := 0) (hi := 999) (f := -1) hb.2 (fun k z1 z2 => hT k (by omega) (by omega))
      omega
    · have := qPartW_le (T := T) (e := e) (b := b) (F := F)
      omega
  · rw [if_neg hf]
    exact Int.le_refl a
/-- parts of a sum, at most k more -/
noncomputable def qSumN (T : Int → Int) (e : Int) (F : Int → Int) : Nat → Int → Int → Int → Int × Int × Int
  | 0, v, a, f => (v, a, f)
  | k + 1, v, a, f => if f = -1 then (if qscan qbl T e a < e ∧ T (qscan qbl T e a) = 43 then qSumN T e F k (v + (qPart T e F (qscan qbl T e a + 1) (-1)).1) (qPart T e F (qscan qbl T e a + 1) (-1)).2.1 (qPart T e F (qscan qbl T e a + 1) (-1)).2.2 else (v, qscan qbl T e a, -1)) else (v, a, f)
noncomputable def qSum (T : Int → Int) (e : Int) (F : Int → Int) (a f : Int) : Int × Int × Int :=
  qSumN T e F 401 (qPart T e F a f).1 (qPart T e F a f).2.1 (qPart T e F a f).2.2
theorem qSumN_bd {T : Int → Int} {e : Int} {F : Int → Int} (hF : zFact F) (he : e ≤ 400) (hT : ∀ k, 0 ≤ k → k < 400 → 0 ≤ T k) : ∀ (k : Nat) (v a f : Int), qAt e a f → 0 ≤ v → v ≤ 9999 * (a + 1) → qAt e (qSumN T e F k v a f).2.1 (qSumN T e F k v a f).2.2 ∧ (0 ≤ (qSumN T e F k v a f).1 ∧ (qSumN T e F k v a f).1 ≤ 5000000) ∧ a ≤ (qSumN T e F k v a f).2.1 ∧ ((qSumN T e F k v a f).2.2 = -1 → f = -1) := by
  intro k
  induction k with
  | zero => intro v a f h h0 h1; exact ⟨h, ⟨h0, by have := h.2.1; show v ≤ 5000000; omega⟩, Int.le_refl a, fun z => z⟩
  | succ k ih =>
    intro v a f h h0 h1
    have h2 := h.1
    have h3 := h.2.1
    have hb := qskip_bd (T := T) h3
    unfold qSumN
    by_cases hf : f = -1
    · rw [if_pos hf]
      generalize qscan qbl T e a = b at hb ⊢
      by_cases hs : b < e ∧ T b = 43
      · rw [if_pos hs]
        have hp := qPart_bd (T := T) (e := e) (a := b + 1) (f := -1) hF ⟨by omega, by omega, by decide, by decide⟩ he hT
        have hl := qPart_le (T := T) (e := e) (a := b + 1) (f := -1) (F := F) ⟨by omega, by omega, by decide, by decide⟩ he hT
        generalize qPart T e F (b + 1) (-1) = r at hp hl ⊢
        have := ih (v + r.1) r.2.1 r.2.2 hp.1 (by omega) (by omega)
        exact ⟨this.1, this.2.1, by omega, fun _ => hf⟩
      · rw [if_neg hs]
        dsimp only [qAt]
        exact ⟨⟨by omega, hb.2, by decide, by decide⟩, ⟨h0, by omega⟩, hb.1, fun _ => hf⟩
    · rw [if_neg hf]
      exact ⟨h, ⟨h0, by show v ≤ 5000000; omega⟩, Int.le_refl a, fun z => z⟩
theorem qSum_bd {T : Int → Int} {e a f : Int} {F : Int → Int} (hF : zFact F) (h : qAt e a f) (he : e ≤ 400) (hT : ∀ k, 0 ≤ k → k < 400 → 0 ≤ T k) : qAt e (qSum T e F a f).2.1 (qSum T e F a f).2.2 ∧ (0 ≤ (qSum T e F a f).1 ∧ (qSum T e F a f).1 ≤ 5000000) ∧ a ≤ (qSum T e F a f).2.1 ∧ ((qSum T e F a f).2.2 = -1 → f = -1) := by
  have hp := qPart_bd hF h he hT
  have hl := qPart_le (F := F) h he hT
  have h0 := h.1
  unfold qSum
  generalize qPart T e F a f = r at hp hl ⊢
  have := qSumN_bd hF he hT 401 r.1 r.2.1 r.2.2 hp.1 hp.2.1.1 (by omega)
  exact ⟨this.1, this.2.1, by omega, fun z => hp.2.2 (this.2.2.2 z)⟩
theorem p_X12_sum {G : zG} {lay : zLay} {σ C0 : zMem} {nx x a f : Int} (hR : RefL lay x) (hS : TxS lay C0) (hT : TxI σ) (ha : qAt (σ 0 10) a f) (hF : zFact (σ 6)) : zMM G 8 KX12_sum [zP x] lay (rC x (pS σ a f) C0) nx (0, 0) (zR (some (zI (qSum (rT σ) (σ 0 10) (σ 6) a f).1)) lay (rC x (pS σ (qSum (rT σ) (σ 0 10) (σ 6) a f).2.1 (qSum (rT σ) (σ 0 10) (σ 6) a f).2.2) C0) nx) := by
  refine z_met' (L := [zP x, zU]) gX12_sum.1 rfl rfl (Nat.le_of_ble_eq_true rfl) rfl ?_
  have he : σ 0 10 ≤ 400 := hT.2.2.1
  have hl : ∀ (k : Nat) (v a f : Int) (r : Int × Int × Int), qAt (σ 0 10) a f → (f = -1 → σ 0 10 - a < k) → qSumN (rT σ) (σ 0 10) (σ 6) k v a f = r → zW G KX12_sum 8 (zR (some (zI r.1)) lay (rC x (pS σ r.2.1 r.2.2) C0) nx) 5 [zP x, zI v] [] lay (rC x (pS σ a f) C0) nx (0, 0) := by
    intro k
    induction k with
    | zero =>
      intro v a f r h hk hr
      have h1 := h.2.1
      have h2 := h.2.2
      subst hr
      refine z_al0 eX12_sum_5 hR.ne ?_
      refine z_rg (j := 12) lX12_25 eX12_sum_6 rfl hR rfl rfl ?_
      rw [pS_12]
      refine z_iconst eX12_sum_9 ?_
      refine z_icmp_ne (tgt := 42) eX12_sum_10 rfl ⟨⟨by omega, by omega⟩, ⟨by omega, by omega⟩⟩ (fun h10 => ?_) (fun h10 => (by exfalso; omega))
      refine z_il1 eX12_sum_42 ?_
      refine z_ireturn eX12_sum_43 rfl ?_
      first | exact ⟨rfl, rfl, rfl, rfl⟩ | exact zRb1 (by omega) | exact zRb0 (by omega) | exact zRe (by omega)
    | succ k ih =>
      intro v a f r h hk hr
      obtain ⟨h1, h2, h3, h4⟩ := h
      have hb := qskip_bd (T := rT σ) h2
      unfold qSumN at hr
      generalize hq : qscan qbl (rT σ) (σ 0 10) a = b at hb hr
      by_cases hf : f = -1
      · subst hf
        rw [if_pos rfl] at hr
        have hp : b < σ 0 10 → _ := fun z => qPart_bd (T := rT σ) (e := σ 0 10) (a := b + 1) (f := -1) hF ⟨by omega, by omega, by decide, by decide⟩ he hT.p
        have hpl : b < σ 0 10 → _ := fun z => qPart_le (T := rT σ) (e := σ 0 10) (a := b + 1) (f := -1) (F := σ 6) ⟨by omega, by omega, by decide, by decide⟩ he hT.p
        refine z_al0 eX12_sum_5 hR.ne ?_
        refine z_rg (j := 12) lX12_25 eX12_sum_6 rfl hR rfl rfl ?_
        rw [pS_12]
        refine z_iconst eX12_sum_9 ?_
        refine z_icmp_ne (tgt := 42) eX12_sum_10 rfl ⟨⟨by omega, by omega⟩, ⟨by omega, by omega⟩⟩ (fun h10 => (by exfalso; omega)) (fun h10 => ?_)
        refine z_al0 eX12_sum_13 hR.ne ?_
        refine z_bipush eX12_sum_14 (by decide) ?_
        refine z_V1 eX12_sum_16 vX12_196 rfl rfl (Nat.le_of_ble_eq_true rfl) (Nat.le_of_ble_eq_true rfl) hR.x (p_X12_isSign hR hT ⟨by omega, by omega⟩ (by decide)) ?_
        rw [hq]
        refine z_ifb_eq (tgt := 42) eX12_sum_19 rfl (fun h19 => ?_) (fun h19 => ?_)
        · refine z_il1 eX12_sum_42 ?_
          refine z_ireturn eX12_sum_43 rfl ?_
          rw [if_neg h19] at hr; subst hr; exact ⟨rfl, rfl, rfl, rfl⟩
        · refine z_al0 eX12_sum_22 hR.ne ?_
          refine z_dup eX12_sum_23 (Nat.ne_of_beq_eq_false rfl) ?_
          refine z_rg (j := 11) lX12_71 eX12_sum_24 rfl hR rfl rfl ?_
          rw [pS_11]
          refine z_iconst eX12_sum_27 ?_
          refine z_iadd eX12_sum_28 ?_
          refine z_rp (j := 11) lX12_71 eX12_sum_29 rfl hR rfl rfl ?_
          rw [pS_s11]
          refine z_il1 eX12_sum_32 ?_
          refine z_al0 eX12_sum_33 hR.ne ?_
          refine z_V0 eX12_sum_34 vX12_216 rfl rfl (Nat.le_of_ble_eq_true rfl) (Nat.le_of_ble_eq_true rfl) hR.x (p_X12_part hR hS hT (by first | assumption | exact ⟨by omega, by omega, by omega, by omega⟩)) ?_
          refine z_iadd eX12_sum_37 ?_
          refine z_is1 eX12_sum_38 (Nat.ne_of_beq_eq_false rfl) ?_
          refine z_goto eX12_sum_39 (tgt := 5) rfl ?_
          rw [if_pos h19] at hr; exact ih _ _ _ r (hp h19.1).1 (fun _ => by have := hpl h19.1; have := hk rfl; omega) hr
      · rw [if_neg hf] at hr
        subst hr
        refine z_al0 eX12_sum_5 hR.ne ?_
        refine z_rg (j := 12) lX12_25 eX12_sum_6 rfl hR rfl rfl ?_
        rw [pS_12]
        refine z_iconst eX12_sum_9 ?_
        refine z_icmp_ne (tgt := 42) eX12_sum_10 rfl ⟨⟨by omega, by omega⟩, ⟨by omega, by omega⟩⟩ (fun h10 => ?_) (fun h10 => absurd h10 hf)
        refine z_il1 eX12_sum_42 ?_
        refine z_ireturn eX12_sum_43 rfl ?_
        first | exact ⟨rfl, rfl, rfl, rfl⟩ | exact zRb1 (by omega) | exact zRb0 (by omega) | exact zRe (by omega)
  refine z_al0 eX12_sum_0 hR.ne ?_
  refine z_V0 eX12_sum_1 vX12_216 rfl rfl (Nat.le_of_ble_eq_true rfl) (Nat.le_of_ble_eq_true rfl) hR.x (p_X12_part hR hS hT (by first | assumption | exact ⟨by omega, by omega, by omega, by omega⟩)) ?_
  refine z_is1 eX12_sum_4 (Nat.ne_of_beq_eq_false rfl) ?_
  exact hl 401 _ _ _ _ (qPart_bd hF ha he hT.p).1 (fun _ => by have := (qPart_bd hF ha he hT.p).1.1; omega) rfl
