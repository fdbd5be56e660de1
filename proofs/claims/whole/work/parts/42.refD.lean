/-! Each line keeps the row's bounds. -/
theorem qMem_ok {M : Int → Int} {pl se hv iv : Int} (h : zOK M) (h3 : M 3 ≤ 6) (hp : 0 ≤ pl ∧ pl ≤ 7) (hs : 0 ≤ se ∧ se ≤ 20) (hh : hv = 0 ∨ hv = 1) (hi : iv = 0 ∨ iv = 1) : zOK (qMem M pl se hv iv) := by
  have h30 := h.1.m3
  unfold qMem
  refine (((((h.put (Or.inr (by omega)) ?_).put (Or.inr (by omega)) ?_).put (Or.inr (by omega)) ?_).put (Or.inr (by omega)) ?_).put (Or.inl (by omega)) ?_)
  · intro _ _; right; rw [zBd_U ⟨h30.1, by omega⟩ ⟨by omega, by omega⟩, if_pos rfl]; exact hp
  · intro _ _; right; rw [zBd_U ⟨h30.1, by omega⟩ ⟨by omega, by omega⟩, if_neg (by decide), if_pos rfl]; exact hs
  · intro _ _; right; rw [zBd_U ⟨h30.1, by omega⟩ ⟨by omega, by omega⟩, if_neg (by decide), if_neg (by decide)]; dsimp only; omega
  · intro _ _; right; rw [zBd_U ⟨h30.1, by omega⟩ ⟨by omega, by omega⟩, if_neg (by decide), if_neg (by decide)]; dsimp only; omega
  · intro _ _; right; rw [show zBd 3 = (0, 7) from rfl]; dsimp only; omega
theorem qMemberLine_ok {T : Int → Int} {e beg a : Int} {M : Int → Int} (h : zOK M) (ha : 0 ≤ a ∧ a ≤ e) (hbg : 0 ≤ beg ∧ beg ≤ 400) (he : e ≤ 400) (hT : ∀ k, 0 ≤ k → k < 400 → 0 ≤ T k) : zOK (qMemberLine T e M beg a).1 ∧ qAt e (qMemberLine T e M beg a).2.1 (qMemberLine T e M beg a).2.2 := by
  have h30 := h.1.m3
  dsimp only [qMemberLine]
  generalize hg0 : (if M 3 = 7 then beg else -1) = g0
  have hg1 : -1 ≤ g0 ∧ g0 ≤ 400 ∧ (g0 = -1 → M 3 ≤ 6) := by
    rw [← hg0]
    split <;> omega
  have hr := qAfter_bd (T := T) (e := e) (lo := 0) (hi := 7) (w := qw_at) (a := a) (f := g0) ⟨ha.1, ha.2, hg1.1, hg1.2.1⟩ he hT
  generalize qAfter T e qw_at 0 7 a g0 = r at hr ⊢
  have hs := qSeats_bd (T := T) hr.1 he hT
  generalize qSeats T e r.2.1 r.2.2 = s at hs ⊢
  have hh := qOpt_bd (T := T) (e := e) (a := s.2.1) (f := s.2.2) (w := qw_hat) ⟨hs.1.1, hs.1.2.1⟩
  generalize qOpt T e qw_hat s.2.1 s.2.2 = k at hh ⊢
  have hs1 := hs.1.1
  have hi := qOpt_bd (T := T) (e := e) (a := k.2) (f := s.2.2) (w := qw_in) ⟨by omega, hh.2.2⟩
  generalize qOpt T e qw_in k.2 s.2.2 = i at hi ⊢
  refine ⟨?_, by omega, hi.2.2, hs.1.2.2.1, hs.1.2.2.2⟩
  split
  · rename_i z
    have z2 := hs.2.1 z
    have z3 := hr.2.1 z2.2.2
    exact qMem_ok h (hg1.2.2 z3.2.2) ⟨z3.1, z3.2.1⟩ ⟨z2.1, z2.2.1⟩ hh.1 hi.1
  · exact h
theorem qMot_ok {M : Int → Int} {mv tk wo fr : Int} (h : zOK M) (h3 : M 4 ≤ 7) (hp : 0 ≤ mv ∧ mv ≤ 6) (hs : 0 ≤ tk ∧ tk ≤ 9) (hw : 0 ≤ wo ∧ wo ≤ 99) : zOK (qMot M mv tk wo fr) := by
  have h30 := h.1.m4
  unfold qMot
  refine ((((((h.put (Or.inr (by omega)) ?_).put (Or.inr (by omega)) ?_).put (Or.inr (by omega)) ?_).put (Or.inr (by omega)) ?_).put (Or.inr (by omega)) ?_).put (Or.inl (by omega)) ?_)
  · intro _ _; right; rw [zBd_V ⟨h30.1, by omega⟩ ⟨by omega, by omega⟩, if_pos rfl]; exact hp
  · intro _ _; right; rw [zBd_V ⟨h30.1, by omega⟩ ⟨by omega, by omega⟩, if_neg (by decide), if_pos rfl]; exact hs
  · intro _ _; right; rw [zBd_V ⟨h30.1, by omega⟩ ⟨by omega, by omega⟩, if_neg (by decide), if_neg (by decide), if_pos rfl]; exact hw
  · intro _ _; left; right; omega
  · intro _ _; right; rw [zBd_V ⟨h30.1, by omega⟩ ⟨by omega, by omega⟩, if_neg (by decide), if_neg (by decide), if_neg (by decide)]; dsimp only; omega
  · intro _ _; right; rw [show zBd 4 = (0, 8) from rfl]; dsimp only; omega
theorem qFor_bd {T : Int → Int} {e m mover a f : Int} (h : qAt e a f) (he : e ≤ 400) (hm : 0 ≤ m) : qAt e (qFor T e m mover a f).2.1 (qFor T e m mover a f).2.2 ∧ ((qFor T e m mover a f).2.2 = -1 → f = -1) := by
  obtain ⟨h1, h2, h3, h4⟩ := h
  unfold qFor
  by_cases hf : f = -1
  · rw [if_pos hf]
    have hb := qskip_bd (T := T) h2
    generalize qscan qbl T e a = b at hb ⊢
    by_cases hw : qhas T e b qw_for
    · have z2 := qhas_bd hw hb.2
      dsimp only [qw_for, List.length] at z2
      rw [zif_t hw]
      exact ⟨(qRow_bd (T := T) (many := m) (most := 1) (a := b + 3) (f := -1) ⟨by omega, z2, by decide, by decide⟩ he hm).1, fun _ => hf⟩
    · rw [zif_f hw]
      dsimp only [qAt]
      exact ⟨⟨by omega, hb.2, by decide, by decide⟩, fun _ => hf⟩
  · rw [if_neg hf]
    exact ⟨⟨h1, h2, h3, h4⟩, fun z => z⟩
theorem qMotionLine_ok {T : Int → Int} {e beg a : Int} {M : Int → Int} (h : zOK M) (ha : 0 ≤ a ∧ a ≤ e) (hbg : 0 ≤ beg ∧ beg ≤ 400) (he : e ≤ 400) (hT : ∀ k, 0 ≤ k → k < 400 → 0 ≤ T k) : zOK (qMotionLine T e M beg a).1 ∧ qAt e (qMotionLine T e M beg a).2.1 (qMotionLine T e M beg a).2.2 := by
  have h30 := h.1.m3
  have h40 := h.1.m4
  dsimp only [qMotionLine]
  generalize hg0 : (if M 4 = 8 then beg else -1) = g0
  have hg1 : -1 ≤ g0 ∧ g0 ≤ 400 ∧ (g0 = -1 → M 4 ≤ 7) := by
    rw [← hg0]
    split <;> omega
  have hr := qAfter_bd (T := T) (e := e) (lo := 0) (hi := M 3 - 1) (w := qw_of) (a := a) (f := g0) ⟨ha.1, ha.2, hg1.1, hg1.2.1⟩ he hT
  generalize qAfter T e qw_of 0 (M 3 - 1) a g0 = r at hr ⊢
  have hs := qAfter_bd (T := T) (lo := 1) (hi := 9) (w := qw_takes) hr.1 he hT
  generalize qAfter T e qw_takes 1 9 r.2.1 r.2.2 = s at hs ⊢
  have ht := qAfter_bd (T := T) (lo := 0) (hi := 99) (w := qw_worth) hs.1 he hT
  generalize qAfter T e qw_worth 0 99 s.2.1 s.2.2 = t at ht ⊢
  have hw := qFor_bd (T := T) (m := M 3) (mover := r.1) ht.1 he h30.1
  generalize qFor T e (M 3) r.1 t.2.1 t.2.2 = w at hw ⊢
  refine ⟨?_, hw.1⟩
  split
  · rename_i z
    have z1 := ht.2.1 (hw.2 z)
    have z2 := hs.2.1 z1.2.2
    have z3 := hr.2.1 z2.2.2
    exact qMot_ok h (hg1.2.2 z3.2.2) ⟨z3.1, by omega⟩ ⟨by omega, z2.2.1⟩ ⟨z1.1, z1.2.1⟩
  · exact h
theorem qSky5_at {T : Int → Int} {M : Int → Int} {s from9 : Int} (m : Nat) (j : Int) : qSky5 T M s from9 m j = if 13 + 5 * s ≤ j ∧ j < 13 + 5 * s + m then T (from9 + (j - (13 + 5 * s))) - 48 else M j := by
  induction m with
  | zero =>
    rw [if_neg (by omega)]
    rfl
  | succ m ih =>
    unfold qSky5 at ih ⊢
    rw [show ((m + 1 : Nat) : Int) = (m : Int) + 1 by omega, zfold_s _ _ (by omega)]
    show zput _ _ _ j = _
    rw [zput_at]
    by_cases e : j = 13 + 5 * s + m
    · rw [if_pos e, if_pos (by omega), show j - (13 + 5 * s) = (m : Int) by omega]
    · rw [if_neg e, ih]
      by_cases e2 : 13 + 5 * s ≤ j ∧ j < 13 + 5 * s + m
      · rw [if_pos e2, if_pos (by omega)]
      · rw [if_neg e2, if_neg (by omega)]
theorem zsum_pos {f : Int → Int} : ∀ m : Nat, (∀ t : Int, 0 ≤ t → t < m → 0 ≤ f t) → 0 ≤ zsum f m := by
  intro m
  induction m with
  | zero => intro _; exact Int.le_refl 0
  | succ m ih =>
    intro h
    rw [show ((m + 1 : Nat) : Int) = (m : Int) + 1 by omega, zsum_s _ (by omega)]
    have := ih (fun t h0 h1 => h t h0 (by omega))
    have := h m (by omega) (by omega)
    omega
theorem qSkyLine_ok {T : Int → Int} {e a f : Int} {M : Int → Int} (h : zOK M) (ha : qAt e a f) (he : e ≤ 400) : zOK (qSkyLine T e M a f).1 ∧ qAt e (qSkyLine T e M a f).2.1 (qSkyLine T e M a f).2.2 := by
  have hr := qSky_bd (T := T) ha he
  dsimp only [qSkyLine]
  generalize qSky T e a f = r at hr ⊢
  have hw := qRow_bd (T := T) (many := 5) (most := 9) hr.1 he (by decide)
  generalize qRow T e 5 9 r.2.1 r.2.2 = w at hw ⊢
  obtain ⟨⟨w1, w2, w3, w4⟩, w5, w6, w7⟩ := hw
  generalize hg : (if w.2.2 = -1 ∧ zsum (fun t => T (w.1 + t) - 48) 5 = 0 then w.1 else w.2.2) = g
  have hg1 : -1 ≤ g ∧ g ≤ 400 ∧ (g = -1 → w.2.2 = -1 ∧ ¬ zsum (fun t => T (w.1 + t) - 48) 5 = 0) := by
    rw [← hg]
    split <;> omega
  refine ⟨?_, w1, w2, hg1.1, hg1.2.1⟩
  split
  · rename_i z
    obtain ⟨z1, z2⟩ := hg1.2.2 z
    obtain ⟨z3, z4, z5, z6⟩ := w5 z1
    have hd : ∀ t, 0 ≤ t → t < 5 → 0 ≤ T (w.1 + t) - 48 ∧ T (w.1 + t) - 48 ≤ 9 := by
      intro t t0 t1
      have y1 := z4 (w.1 + t) (by omega) (by omega)
      have y2 := qscan_all (P := qdig) (T := T) (e := e) _ w.1 rfl (w.1 + t) (by omega) (by omega)
      simp only [qdig, decide_eq_true_eq] at y2
      omega
    have e5 : ((5 : Nat) : Int) = 5 := rfl
    refine ⟨?_, ?_⟩
    · intro j j0 j1
      have := qSky5_at (T := T) (M := M) (s := r.1) (from9 := w.1) 5 j
      rw [e5] at this
      rw [this]
      by_cases y : 13 + 5 * r.1 ≤ j ∧ j < 13 + 5 * r.1 + 5
      · rw [if_pos y, zBd_W ⟨by omega, by omega⟩]
        exact Or.inr (hd _ (by omega) (by omega))
      · rw [if_neg y]; exact h.1 j j0 j1
    · intro s s0 s1
      by_cases y : s = r.1
      · have e9 : zsum (fun t => qSky5 T M r.1 w.1 5 (13 + 5 * s + t)) 5 = zsum (fun t => T (w.1 + t) - 48) 5 := zsum_congr (fun t t0 t1 => by
          have := qSky5_at (T := T) (M := M) (s := r.1) (from9 := w.1) 5 (13 + 5 * s + t)
          rw [e5, if_pos (by omega)] at this
          show qSky5 T M r.1 w.1 5 (13 + 5 * s + t) = _
          rw [this, show 13 + 5 * s + t - (13 + 5 * r.1) = t by omega])
        rw [e9]
        have := zsum_pos (f := fun t => T (w.1 + t) - 48) 5 (fun t t0 t1 => (hd t t0 (by omega)).1)
        rw [e5] at this
        omega
      · have e9 : zsum (fun t => qSky5 T M r.1 w.1 5 (13 + 5 * s + t)) 5 = zsum (fun t => M (13 + 5 * s + t)) 5 := zsum_congr (fun t t0 t1 => by
          have := qSky5_at (T := T) (M := M) (s := r.1) (from9 := w.1) 5 (13 + 5 * s + t)
          rw [e5, if_neg (by omega)] at this
          exact this)
        rw [e9]
        exact h.2 s s0 s1
  · exact h
