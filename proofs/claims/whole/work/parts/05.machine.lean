/-- the texts: class, constant, text, bytes -/
def zStr : List (String × Nat × String × List Int) := []
/-- the links to private things of the nest's host -/
def zNest : List Cond := []
/-! A machine of my own over the kit's: values are whole numbers (an int z stands for Int32.ofInt z, a long for Int64.ofInt z), references are numbers of cells, what the cells hold is a function of two whole numbers. -/
abbrev zAV : Type := Nat × Int
abbrev zI (x : Int) : zAV := (0, x)
abbrev zJ (x : Int) : zAV := (1, x)
abbrev zP (a : Int) : zAV := (2, a)
abbrev zX (a : Int) : zAV := (3, a)
abbrev zU : zAV := (4, 0)
/-- kind and length of each cell: 0 none; ci + 1 an object of class ci; 100 int[], 101 long[], 102 Council[], 103 the script, 104 a text -/
abbrev zLay : Type := Int → Nat × Int
abbrev zMem : Type := Int → Int → Int
/-- launch, the law's first heap, the classes, the array classes, the script (its cell, its length, what it holds), the texts' cells and their bytes' cells -/
abbrev zG : Type := Launch × Heap × va_G × (Nat → ClassId) × (Nat × Nat × (Nat → Int32)) × (Nat → Nat) × (Nat → Nat)
/-- a method: name, code, locals, answer, handlers -/
abbrev zK : Type := MethodName × ByteArray × Nat × Option FieldType × List (Nat × Nat × Nat × Nat)
/-- an end: an answer, or an exception of a class -/
abbrev zO : Type := Option zAV ⊕ String
abbrev zQ : Type := zO → zLay → zMem → Int → Prop
def zc (α : Int → Nat) (v : zAV) : Value := if v.1 = 0 then .int (Int32.ofInt v.2) else if v.1 = 1 then .long (Int64.ofInt v.2) else if v.1 = 2 then (if v.2 = -1 then .null else .ref (α v.2)) else .ref v.2.toNat
def zok (lay : zLay) (v : zAV) : Prop := v.1 = 2 → v.2 = -1 ∨ (lay v.2).1 ≠ 0
theorem zc_I (α : Int → Nat) (x : Int) : zc α (zI x) = .int (Int32.ofInt x) := rfl
theorem zc_J (α : Int → Nat) (x : Int) : zc α (zJ x) = .long (Int64.ofInt x) := rfl
theorem zc_N (α : Int → Nat) : zc α (zP (-1)) = .null := rfl
theorem zc_P (α : Int → Nat) {a : Int} (h : a ≠ -1) : zc α (zP a) = .ref (α a) := by
  show (if a = -1 then Value.null else .ref (α a)) = _
  rw [if_neg h]
theorem zc_X (α : Int → Nat) (a : Int) : zc α (zX a) = .ref a.toNat := rfl
def zTag (d : String) : Nat := if d = "I" then 0 else if d = "Z" then 0 else if d = "J" then 1 else 2
def zopt (α : Int → Nat) (x : Int) : Option Nat := if x = -1 then none else some (α x)
/-- the field k of an object of class number ci -/
def zfv (α : Int → Nat) (C : zMem) (o : Int) (r : vw_C) (k : Nat) : Value := zc α (zTag (r.2.1 k).2.2.1, C o k)
def zArr (G : zG) (α : Int → Nat) (C : zMem) (o : Int) (kd : Nat) (n : Nat) : Cell :=
  if kd = 100 then vp_cell (G.2.2.2.1 0) (n, .inl (fun j : Nat => Int32.ofInt (C o j)))
  else if kd = 101 then vp_cell (G.2.2.2.1 1) (n, .inr (.inl (fun j : Nat => Int64.ofInt (C o j))))
  else vp_cell (G.2.2.2.1 2) (n, .inr (.inr (.inr (.inr (fun j : Nat => zopt α (C o j))))))
/-- a cell of kinds up to 102, in the heap -/
def zCell (G : zG) (α : Int → Nat) (lay : zLay) (C : zMem) (o : Int) (H : Heap) : Prop :=
  if (lay o).1 < 100 then ∃ r : vw_C, vwCl[(lay o).1 - 1]? = some r ∧ t_OB (α o) (G.2.2.1.1 ((lay o).1 - 1)) r.2.2 (G.2.2.1.2 ((lay o).1 - 1)) H (zfv α C o r)
  else H[α o]? = some (zArr G α C o (lay o).1 (lay o).2.toNat)
/-- what a cell holds of references -/
def zRefs (lay : zLay) (C : zMem) (o : Int) : Prop :=
  ((lay o).1 < 100 → ∀ (r : vw_C) (k : Nat), vwCl[(lay o).1 - 1]? = some r → k < r.2.2 → zTag (r.2.1 k).2.2.1 = 2 → (C o k = -1 ∨ (lay (C o k)).1 ≠ 0)) ∧
  ((lay o).1 = 102 → ∀ j : Int, C o j = -1 ∨ (lay (C o j)).1 ≠ 0)
/-- the script is cell -5, the text n is cell -10 - n -/
def zOld (G : zG) (α : Int → Nat) (lay : zLay) (C : zMem) (o : Int) : Prop :=
  ((lay o).1 = 103 → o = -5 ∧ α o = G.2.2.2.2.1.1 ∧ (lay o).2 = G.2.2.2.2.1.2.1 ∧ ∀ j : Nat, j < G.2.2.2.2.1.2.1 → Int32.ofInt (C o j) = G.2.2.2.2.1.2.2 j) ∧
  ((lay o).1 = 104 → ∃ (n : Nat) (q : String × Nat × String × List Int), o = -10 - n ∧ zStr[n]? = some q ∧ α o = G.2.2.2.2.2.1 n ∧ (lay o).2 = q.2.2.2.length ∧ ∀ j : Nat, j < q.2.2.2.length → C o j = q.2.2.2.getD j 0)
def zWR (G : zG) (α : Int → Nat) (lay : zLay) (C : zMem) (nx : Int) (H : Heap) : Prop :=
  (∀ q : Nat, q < G.2.1.size → H[q]? = G.2.1[q]?) ∧ G.2.1.size ≤ H.size ∧ 0 ≤ nx ∧ (lay (-1)).1 = 0 ∧
  (∀ o : Int, (lay o).1 ≠ 0 → (lay o).1 ≤ 102 → 0 ≤ o ∧ o < nx ∧ G.2.1.size ≤ α o ∧ α o < H.size ∧ 0 ≤ (lay o).2 ∧ (lay o).2 < 2147483648 ∧ zCell G α lay C o H ∧ zRefs lay C o) ∧
  (∀ o o' : Int, (lay o).1 ≠ 0 → (lay o).1 ≤ 102 → (lay o').1 ≠ 0 → (lay o').1 ≤ 102 → α o = α o' → o = o') ∧
  (∀ o : Int, nx ≤ o → (lay o).1 = 0) ∧ (∀ o : Int, 0 ≤ o → (lay o).1 ≤ 102) ∧ (∀ o : Int, zOld G α lay C o)
def zExt (α₀ : Int → Nat) (lay₀ : zLay) (α : Int → Nat) (lay : zLay) : Prop := ∀ o : Int, (lay₀ o).1 ≠ 0 → α o = α₀ o ∧ lay o = lay₀ o
theorem zExt.rf (α : Int → Nat) (lay : zLay) : zExt α lay α lay := fun _ _ => ⟨rfl, rfl⟩
theorem zExt.trans {α₀ α₁ α₂ : Int → Nat} {l₀ l₁ l₂ : zLay} (h : zExt α₀ l₀ α₁ l₁) (h' : zExt α₁ l₁ α₂ l₂) : zExt α₀ l₀ α₂ l₂ := fun o ho => by
  obtain ⟨a, b⟩ := h o ho
  obtain ⟨c, d⟩ := h' o (by rw [b]; exact ho)
  exact ⟨c.trans a, d.trans b⟩
theorem zok.ext {α₀ α : Int → Nat} {lay₀ lay : zLay} (h : zExt α₀ lay₀ α lay) {v : zAV} (hv : zok lay₀ v) : zok lay v := fun ht => (hv ht).imp id (fun q => by rw [(h _ q).2]; exact q)
theorem zc.ext {α₀ α : Int → Nat} {lay₀ lay : zLay} (h : zExt α₀ lay₀ α lay) {v : zAV} (hv : zok lay₀ v) : zc α v = zc α₀ v := by
  obtain ⟨t, x⟩ := v
  unfold zc
  by_cases h0 : t = 0
  · simp [h0]
  · by_cases h1 : t = 1
    · simp [h1]
    · by_cases h2 : t = 2
      · subst h2
        rcases hv rfl with h3 | h3
        · simp only at h3
          simp [h3]
        · simp only at h3
          simp [(h _ h3).1]
      · simp [h0, h1, h2]
/-- the locals: a list, zU where nothing is said -/
def zL (α : Int → Nat) (ls : Array Slot) (nL : Nat) (L : List zAV) : Prop := ls.size = nL ∧ lv_wf ls ∧ L.length = nL ∧ ∀ (i : Nat) (v : zAV), L[i]? = some v → v.1 ≠ 4 → ls[i]? = some (.val (zc α v))
theorem zL.at {α : Int → Nat} {ls : Array Slot} {nL : Nat} {L : List zAV} (h : zL α ls nL L) {i : Nat} {v : zAV} (hi : L[i]? = some v) (hv : v.1 ≠ 4) : ls[i]? = some (.val (zc α v)) := h.2.2.2 i v hi hv
theorem zL.ext {α₀ α : Int → Nat} {lay₀ lay : zLay} (he : zExt α₀ lay₀ α lay) {ls : Array Slot} {nL : Nat} {L : List zAV} (hk : ∀ v ∈ L, zok lay₀ v) (h : zL α₀ ls nL L) : zL α ls nL L :=
  ⟨h.1, h.2.1, h.2.2.1, fun i v hi hv => by rw [zc.ext he (hk v (List.mem_of_getElem? hi))]; exact h.2.2.2 i v hi hv⟩
def zLv (α : Int → Nat) (L : List zAV) : List (Nat × Value) := (List.range L.length).filterMap (fun i => (L[i]?).bind (fun v => if v.1 = 4 then none else some (i, zc α v)))
theorem zLv_mem {α : Int → Nat} {L : List zAV} {q : Nat × Value} : q ∈ zLv α L ↔ ∃ v : zAV, L[q.1]? = some v ∧ v.1 ≠ 4 ∧ q.2 = zc α v := by
  unfold zLv
  rw [List.mem_filterMap]
  constructor
  · rintro ⟨i, hi, h⟩
    cases hv : L[i]? with
    | none => rw [hv] at h; simp at h
    | some v =>
      rw [hv] at h
      by_cases h4 : v.1 = 4
      · simp [h4] at h
      · simp only [Option.bind_some, if_neg h4] at h
        cases Option.some.inj h
        exact ⟨v, hv, h4, rfl⟩
  · rintro ⟨v, h1, h2, h3⟩
    have hl : q.1 < L.length := (List.getElem?_eq_some_iff.mp h1).1
    refine ⟨q.1, List.mem_range.mpr hl, ?_⟩
    rw [h1]
    simp only [Option.bind_some, if_neg h2]
    rw [← h3]
theorem zL.has {α : Int → Nat} {ls : Array Slot} {nL : Nat} {L : List zAV} (h : zL α ls nL L) : lv_has ls nL (zLv α L) := ⟨h.1, h.2.1, fun q hq => by
  obtain ⟨v, h1, h2, h3⟩ := zLv_mem.mp hq
  rw [h3]
  exact h.2.2.2 _ v h1 h2⟩
theorem zc_cat {α : Int → Nat} {v : zAV} (h : v.1 ≠ 1) : (zc α v).category = 1 := by
  unfold zc
  by_cases h0 : v.1 = 0
  · rw [if_pos h0]; rfl
  · rw [if_neg h0, if_neg h]
    split
    · split <;> rfl
    · rfl
theorem zc_cat2 {α : Int → Nat} {v : zAV} : (zc α v).category ≤ 2 := by
  unfold zc
  split
  · exact Nat.le_of_ble_eq_true rfl
  · split
    · exact Nat.le_of_ble_eq_true rfl
    · split
      · split <;> exact Nat.le_of_ble_eq_true rfl
      · exact Nat.le_of_ble_eq_true rfl
/-- behind a store of one word at i, nothing long ahead of it -/
theorem zL.set {α : Int → Nat} {ls ls' : Array Slot} {nL : Nat} {L : List zAV} {i : Nat} {v : zAV} (h : zL α ls nL L) (hp : ∀ w, i ≠ 0 → L[i - 1]? = some w → w.1 ≠ 1)
    (h' : lv_has ls' nL ((i, zc α v) :: (zLv α L).filter (fun q => !(q.1 == i) && !(q.1 + 1 == i && q.2.category == 2)))) : zL α ls' nL (L.set i v) := by
  refine ⟨h'.1, h'.2.1, by rw [List.length_set]; exact h.2.2.1, fun j w hj hw => ?_⟩
  by_cases hij : i = j
  · subst hij
    have hl : i < L.length := by
      have := (List.getElem?_eq_some_iff.mp hj).1
      rwa [List.length_set] at this
    rw [List.getElem?_set_self hl] at hj
    cases Option.some.inj hj
    exact h'.2.2 _ List.mem_cons_self
  · rw [List.getElem?_set_ne hij] at hj
    refine h'.2.2 (j, zc α w) (List.mem_cons_of_mem _ (List.mem_filter.mpr ⟨zLv_mem.mpr ⟨w, hj, hw, rfl⟩, ?_⟩))
    have e1 : (j == i) = false := by simp; omega
    rw [e1]
    by_cases hq : j + 1 = i
    · have hw1 : w.1 ≠ 1 := hp w (by omega) (by rw [show i - 1 = j by omega]; exact hj)
      rw [zc_cat hw1]
      simp
    · have e2 : (j + 1 == i) = false := by simpa using hq
      rw [e2]
      rfl
theorem zL.set2 {α : Int → Nat} {ls ls' : Array Slot} {nL : Nat} {L : List zAV} {i : Nat} {v : zAV} (h : zL α ls nL L) (hp : ∀ w, i ≠ 0 → L[i - 1]? = some w → w.1 ≠ 1)
    (h' : lv_has ls' nL ((i, zc α v) :: (zLv α L).filter (fun q => !(q.1 == i) && (!(q.1 == i + 1) && !(q.1 + 1 == i && q.2.category == 2))))) : zL α ls' nL ((L.set i v).set (i + 1) zU) := by
  refine ⟨h'.1, h'.2.1, by rw [List.length_set, List.length_set]; exact h.2.2.1, fun j w hj hw => ?_⟩
  by_cases hij2 : i + 1 = j
  · subst hij2
    have hl : i + 1 < (L.set i v).length := by
      have := (List.getElem?_eq_some_iff.mp hj).1
      rwa [List.length_set] at this
    rw [List.getElem?_set_self hl] at hj
    cases Option.some.inj hj
    exact absurd rfl hw
  rw [List.getElem?_set_ne hij2] at hj
  by_cases hij : i = j
  · subst hij
    have hl : i < L.length := by
      have := (List.getElem?_eq_some_iff.mp hj).1
      rwa [List.length_set] at this
    rw [List.getElem?_set_self hl] at hj
    cases Option.some.inj hj
    exact h'.2.2 _ List.mem_cons_self
  · rw [List.getElem?_set_ne hij] at hj
    refine h'.2.2 (j, zc α w) (List.mem_cons_of_mem _ (List.mem_filter.mpr ⟨zLv_mem.mpr ⟨w, hj, hw, rfl⟩, ?_⟩))
    have e1 : (j == i) = false := by simp; omega
    have e3 : (j == i + 1) = false := by simp; omega
    rw [e1, e3]
    by_cases hq : j + 1 = i
    · have hw1 : w.1 ≠ 1 := hp w (by omega) (by rw [show i - 1 = j by omega]; exact hj)
      rw [zc_cat hw1]
      simp
    · have e2 : (j + 1 == i) = false := by simpa using hq
      rw [e2]
      rfl
