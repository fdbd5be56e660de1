/-! The law's text is read alike whatever the facts are; and only the seven facts count. -/
section ZCG
variable {T : Int → Int} {e : Int} {F F' : Int → Int}
def zEq7 (F F' : Int → Int) : Prop := ∀ k, 0 ≤ k → k < 7 → F k = F' k
theorem qPartW_c (h : zEq7 F F') (b : Int) : qPartW T e F b = qPartW T e F' b := by
  unfold qPartW
  rw [h 0 (by decide) (by decide), h 1 (by decide) (by decide), h 2 (by decide) (by decide), h 3 (by decide) (by decide), h 4 (by decide) (by decide), h 5 (by decide) (by decide), h 6 (by decide) (by decide)]
theorem qPart_c (h : zEq7 F F') (a f : Int) : qPart T e F a f = qPart T e F' a f := by
  unfold qPart
  rw [qPartW_c h]
theorem qSumN_c (h : zEq7 F F') : ∀ (k : Nat) (v a f : Int), qSumN T e F k v a f = qSumN T e F' k v a f := by
  intro k
  induction k with
  | zero => intro v a f; rfl
  | succ k ih =>
    intro v a f
    unfold qSumN
    rw [qPart_c h, ih]
theorem qSum_c (h : zEq7 F F') (a f : Int) : qSum T e F a f = qSum T e F' a f := by
  unfold qSum
  rw [qPart_c h, qSumN_c h]
theorem qCmp_c (h : zEq7 F F') (b : Int) : qCmp T e F b = qCmp T e F' b := by
  unfold qCmp
  rw [qSum_c h b, qSum_c h (qscan qbl T e (qSum T e F' b (-1)).2.1 + 1)]
theorem qPlain_c (h : zEq7 F F') (H V b : Int) : qPlain T e F H V b = qPlain T e F' H V b := by
  unfold qPlain
  rw [qCmp_c h, h 3 (by decide) (by decide)]
theorem qAtom_c (h : zEq7 F F') (H V : Int) : ∀ n : Nat, qAtom T e F H V n = qAtom T e F' H V n := by
  intro n
  induction n with
  | zero => funext a; unfold qAtom; rw [qPlain_c h]
  | succ n ih => funext a; unfold qAtom; rw [qPlain_c h, ih]
/-! places and faults -/
theorem qPartW_i (F F' : Int → Int) (b : Int) : (qPartW T e F b).2 = (qPartW T e F' b).2 := by
  unfold qPartW
  unfold zif
  repeat' split
  all_goals rfl
theorem qPart_i (F F' : Int → Int) (a f : Int) : (qPart T e F a f).2 = (qPart T e F' a f).2 := by
  unfold qPart
  split
  · split
    · rfl
    · exact qPartW_i F F' _
  · rfl
theorem qSumN_i (F F' : Int → Int) : ∀ (k : Nat) (v v' a f : Int), (qSumN T e F k v a f).2 = (qSumN T e F' k v' a f).2 := by
  intro k
  induction k with
  | zero => intro v v' a f; rfl
  | succ k ih =>
    intro v v' a f
    unfold qSumN
    split
    · split
      · rw [qPart_i F F' (qscan qbl T e a + 1) (-1)]; exact ih _ _ _ _
      · rfl
    · rfl
theorem qSum_i (F F' : Int → Int) (a f : Int) : (qSum T e F a f).2 = (qSum T e F' a f).2 := by
  unfold qSum
  rw [qPart_i F F' a f]
  exact qSumN_i F F' _ _ _ _ _
theorem qCmp_i (F F' : Int → Int) (b : Int) : (qCmp T e F b).2 = (qCmp T e F' b).2 := by
  unfold qCmp
  rw [qSum_i F F' b (-1)]
  split
  · split
    · exact qSum_i F F' _ _
    · split
      · exact qSum_i F F' _ _
      · rfl
  · rfl
theorem qPlain_i (F F' : Int → Int) (H H' V V' b : Int) : (qPlain T e F H V b).2 = (qPlain T e F' H' V' b).2 := by
  unfold qPlain
  by_cases w0 : qhas T e b qw_hat
  · rw [zif_t w0, zif_t w0]
  rw [zif_f w0, zif_f w0]
  by_cases w1 : qhas T e b qw_wet
  · rw [zif_t w1, zif_t w1]
  rw [zif_f w1, zif_f w1]
  by_cases w2 : qhas T e b qw_mover
  · rw [zif_t w2, zif_t w2]
  rw [zif_f w2, zif_f w2]
  exact qCmp_i F F' b
theorem qChN_i {w : List Int} {g : Int → Int → Int} {A A' : Int → Int × Int × Int} (h : ∀ a, (A a).2 = (A' a).2) : ∀ (k : Nat) (v v' a f : Int), (qChN T e w g A k v a f).2 = (qChN T e w g A' k v' a f).2 := by
  intro k
  induction k with
  | zero => intro v v' a f; rfl
  | succ k ih =>
    intro v v' a f
    unfold qChN
    split
    · by_cases hw : qhas T e (qscan qbl T e a) w
      · rw [zif_t hw, zif_t hw, h]; exact ih _ _ _ _
      · rw [zif_f hw, zif_f hw]
    · rfl
theorem qEv_i {A A' : Int → Int × Int × Int} (h : ∀ a, (A a).2 = (A' a).2) (a : Int) : (qEv T e A a).2 = (qEv T e A' a).2 := by
  unfold qEv
  rw [h a]
  exact qChN_i h _ _ _ _ _
theorem qSm_i {A A' : Int → Int × Int × Int} (h : ∀ a, (A a).2 = (A' a).2) (a : Int) : (qSm T e A a).2 = (qSm T e A' a).2 := by
  unfold qSm
  rw [qEv_i h a]
  exact qChN_i (qEv_i h) _ _ _ _ _
theorem qBrk_i {r r' : Int × Int × Int} (h : r.2 = r'.2) : (qBrk T e r).2 = (qBrk T e r').2 := by
  unfold qBrk
  rw [h]
  split
  · split <;> rfl
  · rfl
theorem qAtom_i (F F' : Int → Int) (H H' V V' : Int) : ∀ (n : Nat) (a : Int), (qAtom T e F H V n a).2 = (qAtom T e F' H' V' n a).2 := by
  intro n
  induction n with
  | zero =>
    intro a
    unfold qAtom
    by_cases hw : qhas T e (qscan qbl T e a) qw_not
    · rw [zif_t hw, zif_t hw]
    · rw [zif_f hw, zif_f hw]
      split
      · rfl
      · exact qPlain_i _ _ _ _ _ _ _
  | succ n ih =>
    intro a
    unfold qAtom
    by_cases hw : qhas T e (qscan qbl T e a) qw_not
    · rw [zif_t hw, zif_t hw]; exact ih _
    · rw [zif_f hw, zif_f hw]
      split
      · exact qBrk_i (qSm_i ih _)
      · exact qPlain_i _ _ _ _ _ _ _
/-- kind, number, place, fault -/
def qLx (L : Int × Int × Int × Int × Int) : Int × Int × Int × Int := (L.1, L.2.1, L.2.2.2)
theorem qL2_i {A A' : Int → Int × Int × Int} (h : ∀ a, (A a).2 = (A' a).2) (k n p f : Int) : qLx (qL2 T e A k n p f) = qLx (qL2 T e A' k n p f) := by
  unfold qL2
  split
  · by_cases hw : qhas T e (qscan qbl T e p) qw_if
    · rw [zif_t hw, zif_t hw, qSm_i h]
      split
      · unfold qLx; dsimp only; rw [qSm_i h]
      · rfl
    · rw [zif_f hw, zif_f hw]
  · rfl
theorem qL1_i {A A' : Int → Int × Int × Int} (h : ∀ a, (A a).2 = (A' a).2) (k p : Int) : qLx (qL1 T e A k p) = qLx (qL1 T e A' k p) := by
  unfold qL1
  split
  · exact qL2_i h _ _ _ _
  · exact qL2_i h _ _ _ _
theorem qLine_i {A A' : Int → Int × Int × Int} (h : ∀ a, (A a).2 = (A' a).2) (a : Int) : qLx (qLine T e A a) = qLx (qLine T e A' a) := by
  unfold qLine
  by_cases w0 : qhas T e (qscan qbl T e a) qw_feel
  · rw [zif_t w0, zif_t w0]; exact qL1_i h _ _
  rw [zif_f w0, zif_f w0]
  by_cases w1 : qhas T e (qscan qbl T e a) qw_dull
  · rw [zif_t w1, zif_t w1]; exact qL1_i h _ _
  rw [zif_f w1, zif_f w1]
  by_cases w2 : qhas T e (qscan qbl T e a) qw_lapse
  · rw [zif_t w2, zif_t w2]; exact qL1_i h _ _
  rw [zif_f w2, zif_f w2]
theorem qLawN_i {A A' : Int → Int × Int × Int} (h : ∀ a, (A a).2 = (A' a).2) : ∀ (k : Nat) (n : Int) (W W' : Int × Int × Int) (a : Int), (qLawN T e A k n W a).1 = (qLawN T e A' k n W' a).1 ∧ (qLawN T e A k n W a).2.2 = (qLawN T e A' k n W' a).2.2 := by
  intro k
  induction k with
  | zero => intro n W W' a; exact ⟨rfl, rfl⟩
  | succ k ih =>
    intro n W W' a
    unfold qLawN
    dsimp only
    have hL := qLine_i (T := T) (e := e) h (qscan qbl T e a)
    have e1 : (qLine T e A (qscan qbl T e a)).2.2.2 = (qLine T e A' (qscan qbl T e a)).2.2.2 := congrArg (fun q => q.2.2) hL
    rw [e1]
    split
    · exact ⟨rfl, rfl⟩
    · split
      · split
        · exact ih _ _ _ _
        · exact ⟨rfl, rfl⟩
      · exact ⟨rfl, rfl⟩
theorem qLaw_i {A A' : Int → Int × Int × Int} (h : ∀ a, (A a).2 = (A' a).2) (W W' : Int × Int × Int) (a : Int) : (qLaw T e A W a).1 = (qLaw T e A' W' a).1 ∧ (qLaw T e A W a).2.2 = (qLaw T e A' W' a).2.2 := by
  unfold qLaw
  split
  · exact qLawN_i h _ _ _ _ _
  · exact ⟨rfl, rfl⟩
end ZCG
/-- how many lines a text of the law has, and its fault -/
noncomputable def qLawP (T : Int → Int) (e : Int) : Int × Int := ((qLaw T e (qAtom T e (fun _ => 0) 0 0 6) (0, 0, 0) 0).1, (qLaw T e (qAtom T e (fun _ => 0) 0 0 6) (0, 0, 0) 0).2.2.2)
theorem qLawN_01 {T : Int → Int} {e : Int} {A : Int → Int × Int × Int} : ∀ (k : Nat) (n : Int) (W : Int × Int × Int) (a : Int), qW01 W → qW01 (qLawN T e A k n W a).2.1 := by
  intro k
  induction k with
  | zero => intro n W a h; exact h
  | succ k ih =>
    intro n W a h
    unfold qLawN
    dsimp only
    split
    · exact h
    · split
      · split
        · exact ih _ _ _ (qLw_01 h)
        · exact qLw_01 h
      · exact qLw_01 h
theorem qLaw_01 {T : Int → Int} {e : Int} {A : Int → Int × Int × Int} {W : Int × Int × Int} {a : Int} (h : qW01 W) : qW01 (qLaw T e A W a).2.1 := by
  unfold qLaw
  split
  · exact qLawN_01 _ _ _ _ h
  · exact h
/-- how many lines, and the fault, in bounds; the feelings too -/
theorem qLf_bd {k n s fe c : Int} (hn : 0 ≤ n ∧ n ≤ 9999) (h : -c ≤ fe ∧ fe ≤ c) : -(c + 9999) ≤ qLf k n s fe ∧ qLf k n s fe ≤ c + 9999 := by
  unfold qLf
  split
  · omega
  · split
    · omega
    · split <;> omega
theorem qLawN_bd {T : Int → Int} {e : Int} {A : Int → Int × Int × Int} (hB : ∀ a, 0 ≤ a → a ≤ e → qC e 6 a (A a)) (he : e ≤ 400) (hT : ∀ k, 0 ≤ k → k < 400 → 0 ≤ T k) : ∀ (k : Nat) (n : Int) (W : Int × Int × Int) (a : Int), n + k = 13 → 0 ≤ n → 0 ≤ a → a ≤ e → -(9999 * n) ≤ W.1 → W.1 ≤ 9999 * n → (0 ≤ (qLawN T e A k n W a).1 ∧ (qLawN T e A k n W a).1 ≤ 13) ∧ (-150000 ≤ (qLawN T e A k n W a).2.1.1 ∧ (qLawN T e A k n W a).2.1.1 ≤ 150000) ∧ (-1 ≤ (qLawN T e A k n W a).2.2.2 ∧ (qLawN T e A k n W a).2.2.2 ≤ 400) ∧ ((qLawN T e A k n W a).1 = 13 → (qLawN T e A k n W a).2.2.2 ≠ -1 ∨ n = 13) := by
  intro k
  induction k with
  | zero => intro n W a h1 h2 h3 h4 h5 h6; unfold qLawN; dsimp only; exact ⟨⟨by omega, by omega⟩, ⟨by omega, by omega⟩, ⟨by omega, by omega⟩, fun _ => Or.inr (by omega)⟩
  | succ k ih =>
    intro n W a h1 h2 h3 h4 h5 h6
    have hb := qskip_bd (T := T) h4
    unfold qLawN
    dsimp only
    generalize qscan qbl T e a = b at hb ⊢
    have hL := qLine_bd (T := T) (e := e) (a := b) hB ⟨by omega, hb.2⟩ he hT
    generalize qLine T e A b = L at hL ⊢
    obtain ⟨⟨L1, L2, L3, L4, L5⟩, L6, L7⟩ := hL
    have hq := qLf_bd (k := L.1) (s := L.2.2.1) (c := 9999 * n) L7 ⟨h5, h6⟩
    have hc : L.2.2.2.2 = -1 → _ := fun z => qskip_bd (T := T) (L3 z)
    generalize qscan qbl T e L.2.2.2.1 = c at hc ⊢
    split
    · exact ⟨⟨by show (0 : Int) ≤ 13; decide, by show (13 : Int) ≤ 13; decide⟩, ⟨by show -150000 ≤ W.1; omega, by show W.1 ≤ 150000; omega⟩, ⟨by show -1 ≤ b; omega, by show b ≤ 400; omega⟩, fun _ => Or.inl (by show b ≠ -1; omega)⟩
    · rename_i hn12
      split
      · rename_i hf
        have hc2 := hc hf.1
        split
        · have := ih (n + 1) (qLw L W) (c + 1) (by omega) (by omega) (by omega) (by omega) (by show _ ≤ qLf L.1 L.2.1 L.2.2.1 W.1; omega) (by show qLf L.1 L.2.1 L.2.2.1 W.1 ≤ _; omega)
          exact ⟨this.1, this.2.1, this.2.2.1, fun z => Or.inl ((this.2.2.2 z).resolve_right (by omega))⟩
        · exact ⟨⟨by show 0 ≤ n + 1; omega, by show n + 1 ≤ 13; omega⟩, ⟨by show -150000 ≤ qLf L.1 L.2.1 L.2.2.1 W.1; omega, by show qLf L.1 L.2.1 L.2.2.1 W.1 ≤ 150000; omega⟩, ⟨by show -1 ≤ c; omega, by show c ≤ 400; omega⟩, fun z => Or.inl (by show c ≠ -1; omega)⟩
      · exact ⟨⟨by show 0 ≤ n + 1; omega, by show n + 1 ≤ 13; omega⟩, ⟨by show -150000 ≤ qLf L.1 L.2.1 L.2.2.1 W.1; omega, by show qLf L.1 L.2.1 L.2.2.1 W.1 ≤ 150000; omega⟩, ⟨L4, by show L.2.2.2.2 ≤ 400; omega⟩, fun z => absurd (show n + 1 = 13 from z) (by omega)⟩
theorem qLaw_bd {T : Int → Int} {e a : Int} {A : Int → Int × Int × Int} {W : Int × Int × Int} (hB : ∀ a, 0 ≤ a → a ≤ e → qC e 6 a (A a)) (he : e ≤ 400) (hT : ∀ k, 0 ≤ k → k < 400 → 0 ≤ T k) (h0 : 0 ≤ a) (h1 : a ≤ e) (hW : W.1 = 0) : (0 ≤ (qLaw T e A W a).1 ∧ (qLaw T e A W a).1 ≤ 13) ∧ (-150000 ≤ (qLaw T e A W a).2.1.1 ∧ (qLaw T e A W a).2.1.1 ≤ 150000) ∧ (-1 ≤ (qLaw T e A W a).2.2.2 ∧ (qLaw T e A W a).2.2.2 ≤ 400) ∧ ((qLaw T e A W a).1 = 13 → (qLaw T e A W a).2.2.2 ≠ -1) := by
  have hb := qskip_bd (T := T) h1
  unfold qLaw
  split
  · have := qLawN_bd (T := T) (e := e) hB he hT 13 0 W (qscan qbl T e a) (by decide) (by decide) (by omega) hb.2 (by omega) (by omega)
    exact ⟨this.1, this.2.1, this.2.2.1, fun z => (this.2.2.2 z).resolve_right (by decide)⟩
  · exact ⟨⟨by show (0 : Int) ≤ 0; decide, by show (0 : Int) ≤ 13; decide⟩, ⟨by show -150000 ≤ W.1; omega, by show W.1 ≤ 150000; omega⟩, ⟨by show (-1 : Int) ≤ -1; decide, by show (-1 : Int) ≤ 400; decide⟩, fun z => absurd (show (0 : Int) = 13 from z) (by decide)⟩
