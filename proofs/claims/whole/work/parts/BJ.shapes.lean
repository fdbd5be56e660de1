/-! The shapes of the other objects. -/
theorem TpAt : zAt 57 layT rfT 0 := by
  refine ⟨fun i i0 i1 => ?_, fun i i0 i1 => by rw [Int.zero_add], fun i j i0 i1 => ?_⟩
  · unfold inT; omega
  · rw [Int.zero_add]
    cases rfT i j with
    | none => rfl
    | some t => show some t = some (0 + t); rw [Int.zero_add]
theorem zAt.mk' {n b : Int} {m : Nat} {l : Int → Nat × Int} {r : Int → Int → Option Int} (hn : n = m) (hb : ∀ i, 0 ≤ i → i < n → inT (b + i)) (h : ∀ i : Nat, i < m → layT (b + i) = l i) (h2 : ∀ i : Nat, i < m → ∀ j, rfT (b + i) j = (r i j).map (fun t => b + t)) : zAt n l r b := by
  subst hn
  refine ⟨hb, fun i i0 i1 => ?_, fun i j i0 i1 => ?_⟩
  · have := h i.toNat (by omega)
    rwa [Int.toNat_of_nonneg i0] at this
  · have := h2 i.toNat (by omega) j
    rwa [Int.toNat_of_nonneg i0] at this
def layWd (i : Int) : Nat × Int := (11, 6)
def rfNo (i j : Int) : Option Int := none
abbrev WdAt (b : Int) : Prop := zAt 1 layWd rfNo b
theorem WdAt.a : WdAt 274 := zAt.mk' (m := 1) rfl (fun i i0 i1 => by unfold inT; omega) (by decide) (fun i hi j => by
  have : i = 0 := by omega
  subst this
  rfl)
theorem WdAt.b : WdAt 295 := zAt.mk' (m := 1) rfl (fun i i0 i1 => by unfold inT; omega) (by decide) (fun i hi j => by
  have : i = 0 := by omega
  subst this
  rfl)
def layCx (i : Int) : Nat × Int := (1, 2)
def rfCx (i j : Int) : Option Int := if j = 0 then some 1 else if j = 1 then some 3 else none
theorem CxAt : zAt 1 layCx rfCx 273 := zAt.mk' (m := 1) rfl (fun i i0 i1 => by unfold inT; omega) (by decide) (fun i hi j => by
  have : i = 0 := by omega
  subst this
  show (if j = 0 then some 274 else if j = 1 then some 276 else none) = _
  unfold rfCx
  split
  · rfl
  · split <;> rfl)
def layLx (i : Int) : Nat × Int := (5, 2)
def rfLx (i j : Int) : Option Int := if j = 0 then some 1 else none
theorem LxAt : zAt 1 layLx rfLx 294 := zAt.mk' (m := 1) rfl (fun i i0 i1 => by unfold inT; omega) (by decide) (fun i hi j => by
  have : i = 0 := by omega
  subst this
  show (if j = 0 then some 295 else none) = _
  unfold rfLx
  split <;> rfl)
def layCu (i : Int) : Nat × Int := if i = 0 then (3, 3) else if i = 1 then (100, 12) else (100, 5)
def rfCu (i j : Int) : Option Int := if i = 0 then (if j = 0 then some 1 else if j = 1 then some 2 else if j = 2 then some 3 else none) else none
theorem CuAt : zAt 4 layCu rfCu 303 := zAt.mk' (m := 4) rfl (fun i i0 i1 => by unfold inT; omega) (by decide) (fun i hi j => by
  have : i = 0 ∨ i = 1 ∨ i = 2 ∨ i = 3 := by omega
  rcases this with e | e | e | e <;> subst e
  · show (if j = 0 then some 304 else if j = 1 then some 305 else if j = 2 then some 306 else none) = _
    show _ = (if j = 0 then some 1 else if j = 1 then some 2 else if j = 2 then some 3 else none : Option Int).map (fun t => 303 + t)
    (repeat' split) <;> rfl
  all_goals rfl)
def laySi (i : Int) : Nat × Int := if i = 0 then (9, 4) else (100, 8)
def rfSi (i j : Int) : Option Int := if i = 0 then (if j = 1 then some 1 else if j = 3 then some 2 else none) else none
theorem SiAt : zAt 3 laySi rfSi 307 := zAt.mk' (m := 3) rfl (fun i i0 i1 => by unfold inT; omega) (by decide) (fun i hi j => by
  have : i = 0 ∨ i = 1 ∨ i = 2 := by omega
  rcases this with e | e | e <;> subst e
  · show (if j = 1 then some 308 else if j = 3 then some 309 else none) = _
    show _ = (if j = 1 then some 1 else if j = 3 then some 2 else none : Option Int).map (fun t => 307 + t)
    (repeat' split) <;> rfl
  all_goals rfl)
def layPl (i : Int) : Nat × Int := if i = 0 then (8, 4) else if i = 1 then (100, 3328) else (100, 96)
def rfPl (i j : Int) : Option Int := if i = 0 then (if j = 0 then some 1 else if j = 1 then some 2 else none) else none
theorem PlAt : zAt 3 layPl rfPl 310 := zAt.mk' (m := 3) rfl (fun i i0 i1 => by unfold inT; omega) (by decide) (fun i hi j => by
  have : i = 0 ∨ i = 1 ∨ i = 2 := by omega
  rcases this with e | e | e <;> subst e
  · show (if j = 0 then some 311 else if j = 1 then some 312 else none) = _
    show _ = (if j = 0 then some 1 else if j = 1 then some 2 else none : Option Int).map (fun t => 310 + t)
    (repeat' split) <;> rfl
  all_goals rfl)
theorem isCo.now : CoAt 2 := isCo.at (Or.inl rfl)
theorem isCo.tried : CoAt 20 := isCo.at (Or.inr (Or.inl rfl))
theorem isCo.kept : CoAt 38 := isCo.at (Or.inr (Or.inr (Or.inl rfl)))
theorem isCo.draft : CoAt 276 := isCo.at (Or.inr (Or.inr (Or.inr (Or.inl rfl))))
theorem isCo.past {c : Int} (h : 0 ≤ c ∧ c < 12) : CoAt (57 + 18 * c) := isCo.at (Or.inr (Or.inr (Or.inr (Or.inr ⟨c, h.1, h.2, rfl⟩))))
