/-! Steps of a law, put together. -/
def qFz : Int → Int := fun _ => 0
theorem qFz_ok : qFaOK qFz := ⟨fun k _ _ => ⟨Int.le_refl 0, by show (0 : Int) ≤ 9999; decide⟩, Or.inl rfl, Or.inl rfl, (zbi_f (by show ¬ (1 : Int) < 0; decide)).symm⟩
/-- m steps from i on leave one number more, which is V's, from any height up to tb on -/
def qCode (P : Int → Int) (i : Int) (m : Nat) (tb : Int) (V : (Int → Int) → Int) : Prop := ∀ F, qFaOK F → ∀ (t : Int) (S : Int → Int), 0 ≤ t → t ≤ tb → ∃ r', qRunOK F P m i (t, S) r' ∧ r'.1 = t + 1 ∧ r'.2 t = V F ∧ ∀ j, j < t → r'.2 j = S j
/-- likewise two things kept for later: u (if o), v above it (if a) -/
def qPre (P : Int → Int) (i : Int) (m : Nat) (tb o : Int) (u : (Int → Int) → Int) (a : Int) (v : (Int → Int) → Int) : Prop := ∀ F, qFaOK F → ∀ (t : Int) (S : Int → Int), 0 ≤ t → t ≤ tb → ∃ r', qRunOK F P m i (t, S) r' ∧ r'.1 = t + o + a ∧ (o = 1 → r'.2 t = u F) ∧ (a = 1 → r'.2 (t + o) = v F) ∧ ∀ j, j < t → r'.2 j = S j
theorem qRun1 {F P : Int → Int} {i : Int} {r : Int × (Int → Int)} (h : qOKs (P i) r) : qRunOK F P 1 i r (qStp F (P i) r) := ⟨h, rfl⟩
section ZCODE
variable {P P' : Int → Int} {i tb tb' o a op : Int} {m m' : Nat} {u v w V : (Int → Int) → Int}
theorem qCode.cg (h : qCode P i m tb V) (e : ∀ j, i ≤ j → j < i + m → P' j = P j) : qCode P' i m tb V := fun F hF t S t0 t1 => by
  obtain ⟨r, h1, h2⟩ := h F hF t S t0 t1
  exact ⟨r, h1.cg e, h2⟩
theorem qPre.cg (h : qPre P i m tb o u a v) (e : ∀ j, i ≤ j → j < i + m → P' j = P j) : qPre P' i m tb o u a v := fun F hF t S t0 t1 => by
  obtain ⟨r, h1, h2⟩ := h F hF t S t0 t1
  exact ⟨r, h1.cg e, h2⟩
theorem qCode.low (h : qCode P i m tb V) (hb : tb' ≤ tb) : qCode P i m tb' V := fun F hF t S t0 t1 => h F hF t S t0 (by omega)
theorem qCode.num (hP : P i = op) (h0 : 0 ≤ op ∧ op ≤ 999) : qCode P i 1 23 (fun _ => op) := fun F hF t S t0 t1 => by
  refine ⟨_, qRun1 ?_, ?_⟩
  · rw [hP]
    exact ⟨⟨by omega, by omega⟩, ⟨t0, by show t ≤ 24; omega⟩, fun _ => ⟨by show t < 24; omega, by omega⟩, fun z => by omega, fun z => by omega⟩
  · rw [hP]
    unfold qStp
    rw [if_pos (by omega), if_neg (by omega)]
    exact ⟨rfl, zput_eq, fun j hj => zput_ne (by show j ≠ t; omega)⟩
theorem qCode.fact {f : Int} (hP : P i = 1000 + f) (h0 : 0 ≤ f ∧ f ≤ 9) : qCode P i 1 23 (fun F => F f) := fun F hF t S t0 t1 => by
  refine ⟨_, qRun1 ?_, ?_⟩
  · rw [hP]
    exact ⟨⟨by omega, by omega⟩, ⟨t0, by show t ≤ 24; omega⟩, fun _ => ⟨by show t < 24; omega, by omega⟩, fun z => by omega, fun z => by omega⟩
  · rw [hP]
    unfold qStp
    rw [if_pos (by omega), if_pos (by omega), show 1000 + f - 1000 = f by omega]
    exact ⟨rfl, zput_eq, fun j hj => zput_ne (by show j ≠ t; omega)⟩
theorem qCode.not (h : qCode P i m tb V) (hP : P (i + m) = 2005) (hb : tb ≤ 23) : qCode P i (m + 1) tb (fun F => 1 - V F) := fun F hF t S t0 t1 => by
  obtain ⟨r, h1, h2, h3, h4⟩ := h F hF t S t0 t1
  refine ⟨_, h1.add (qRun1 ?_), ?_⟩
  · rw [hP]
    exact ⟨⟨by decide, by decide⟩, ⟨by omega, by omega⟩, fun z => by omega, fun _ => by omega, fun z => absurd rfl z.2⟩
  · rw [hP]
    unfold qStp
    rw [if_neg (by decide), if_pos rfl]
    refine ⟨h2, ?_, fun j hj => ?_⟩
    · show zput r.2 (r.1 - 1) (1 - r.2 (r.1 - 1)) t = _
      rw [show r.1 - 1 = t by omega, zput_eq, h3]
    · show zput r.2 (r.1 - 1) (1 - r.2 (r.1 - 1)) j = _
      rw [zput_ne (by omega)]
      exact h4 j hj
theorem qPre.nil : qPre P i 0 tb 0 u 0 v := fun F hF t S t0 t1 => ⟨(t, S), rfl, by show t = t + 0 + 0; omega, fun z => absurd z (by decide), fun z => absurd z (by decide), fun _ _ => rfl⟩
theorem qPre.atom (h : qPre P i m tb o u 0 v) (ho : o = 0 ∨ o = 1) (hc : qCode P (i + m) m' tb' w) (hb : tb + 1 ≤ tb') : qPre P i (m + m') tb o u 1 w := fun F hF t S t0 t1 => by
  obtain ⟨r, h1, h2, h3, h4, h5⟩ := h F hF t S t0 t1
  obtain ⟨q, k1, k2, k3, k4⟩ := hc F hF r.1 r.2 (by omega) (by omega)
  refine ⟨q, h1.add k1, by omega, fun z => ?_, fun _ => ?_, fun j hj => ?_⟩
  · rw [k4 t (by omega)]; exact h3 z
  · rw [show t + o = r.1 by omega]; exact k3
  · rw [k4 j (by omega)]; exact h5 j hj
theorem qPre.join (h : qPre P i m tb o u 1 v) (ho : o = 0 ∨ o = 1) (hc : qCode P (i + m) m' tb' w) (hb : tb + 2 ≤ tb') (hb2 : tb ≤ 21) (hP : P (i + m + m') = op) (hop : 2000 ≤ op ∧ op ≤ 2004) (hv : ∀ F, qFaOK F → zin (v F)) (hw : ∀ F, qFaOK F → zin (w F)) : qPre P i (m + m' + 1) tb o u 1 (fun F => qJoin op (v F) (w F)) := fun F hF t S t0 t1 => by
  obtain ⟨r, h1, h2, h3, h4, h5⟩ := h F hF t S t0 t1
  obtain ⟨q, k1, k2, k3, k4⟩ := hc F hF r.1 r.2 (by omega) (by omega)
  have e1 : q.1 - 1 = r.1 := by omega
  have e2 : q.1 - 2 = t + o := by omega
  have g1 : q.2 (q.1 - 1) = w F := by rw [e1]; exact k3
  have g2 : q.2 (q.1 - 2) = v F := by rw [e2, k4 _ (by omega)]; exact h4 rfl
  refine ⟨_, (h1.add k1).add (qRun1 ?_), ?_⟩
  · rw [show ((m + m' : Nat) : Int) = (m : Int) + m' by omega, show i + ((m : Int) + m') = i + m + m' by omega, hP]
    refine ⟨⟨by omega, by omega⟩, ⟨by omega, by omega⟩, fun z => by omega, fun z => by omega, fun _ => ⟨by omega, ?_, ?_⟩⟩
    · rw [g2]; exact hv F hF
    · rw [g1]; exact hw F hF
  · rw [show ((m + m' : Nat) : Int) = (m : Int) + m' by omega, show i + ((m : Int) + m') = i + m + m' by omega, hP]
    unfold qStp
    rw [if_neg (by omega), if_neg (by omega)]
    refine ⟨by show q.1 - 1 = t + o + 1; omega, fun z => ?_, fun _ => ?_, fun j hj => ?_⟩
    · show zput q.2 (q.1 - 2) _ t = _
      rw [zput_ne (by omega), k4 t (by omega)]; exact h3 z
    · show zput q.2 (q.1 - 2) (qJoin op (q.2 (q.1 - 2)) (q.2 (q.1 - 1))) (t + o) = _
      rw [← e2, zput_eq, g1, g2]
    · show zput q.2 (q.1 - 2) _ j = _
      rw [zput_ne (by omega), k4 j (by omega)]; exact h5 j hj
theorem qPre.fin0 (h : qPre P i m tb 0 u 1 v) : qCode P i m tb v := fun F hF t S t0 t1 => by
  obtain ⟨r, h1, h2, h3, h4, h5⟩ := h F hF t S t0 t1
  exact ⟨r, h1, by omega, by have := h4 rfl; rwa [Int.add_zero] at this, h5⟩
theorem qPre.fin1 (h : qPre P i m tb 1 u 1 v) (hb : tb ≤ 22) (hP : P (i + m) = op) (hop : 2000 ≤ op ∧ op ≤ 2004) (hu : ∀ F, qFaOK F → zin (u F)) (hv : ∀ F, qFaOK F → zin (v F)) : qCode P i (m + 1) tb (fun F => qJoin op (u F) (v F)) := fun F hF t S t0 t1 => by
  obtain ⟨q, h1, h2, h3, h4, h5⟩ := h F hF t S t0 t1
  have e1 : q.1 - 1 = t + 1 := by omega
  have e2 : q.1 - 2 = t := by omega
  have g1 : q.2 (q.1 - 1) = v F := by rw [e1]; exact h4 rfl
  have g2 : q.2 (q.1 - 2) = u F := by rw [e2]; exact h3 rfl
  refine ⟨_, h1.add (qRun1 ?_), ?_⟩
  · rw [hP]
    refine ⟨⟨by omega, by omega⟩, ⟨by omega, by omega⟩, fun z => by omega, fun z => by omega, fun _ => ⟨by omega, ?_, ?_⟩⟩
    · rw [g2]; exact hu F hF
    · rw [g1]; exact hv F hF
  · rw [hP]
    unfold qStp
    rw [if_neg (by omega), if_neg (by omega)]
    refine ⟨by show q.1 - 1 = t + 1; omega, ?_, fun j hj => ?_⟩
    · show zput q.2 (q.1 - 2) (qJoin op (q.2 (q.1 - 2)) (q.2 (q.1 - 1))) t = _
      rw [g1, g2, e2, zput_eq]
    · show zput q.2 (q.1 - 2) _ j = _
      rw [zput_ne (by omega)]; exact h5 j hj
theorem qCode.pre (h : qCode P i m tb u) : qPre P i m tb 1 u 0 v := fun F hF t S t0 t1 => by
  obtain ⟨r, h1, h2, h3, h4⟩ := h F hF t S t0 t1
  exact ⟨r, h1, by omega, fun _ => h3, fun z => absurd z (by decide), h4⟩
end ZCODE
