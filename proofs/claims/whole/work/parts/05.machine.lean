/-- the texts: class, constant, text, bytes -/
def zStr : List (String × Nat × String × List Int) := [
  ("DrizzleVote$CoastText", 47, "member", [109, 101, 109, 98, 101, 114]),
  ("DrizzleVote$CoastText", 137, "at", [97, 116]),
  ("DrizzleVote$CoastText", 142, "seats", [115, 101, 97, 116, 115]),
  ("DrizzleVote$CoastText", 144, "hat", [104, 97, 116]),
  ("DrizzleVote$CoastText", 146, "in", [105, 110]),
  ("DrizzleVote$CoastText", 60, "motion", [109, 111, 116, 105, 111, 110]),
  ("DrizzleVote$CoastText", 152, "of", [111, 102]),
  ("DrizzleVote$CoastText", 154, "takes", [116, 97, 107, 101, 115]),
  ("DrizzleVote$CoastText", 156, "worth", [119, 111, 114, 116, 104]),
  ("DrizzleVote$CoastText", 158, "for", [102, 111, 114]),
  ("DrizzleVote$CoastText", 74, "sky", [115, 107, 121]),
  ("DrizzleVote$CoastText", 175, "sun", [115, 117, 110]),
  ("DrizzleVote$CoastText", 177, "dry", [100, 114, 121]),
  ("DrizzleVote$CoastText", 179, "drizzle", [100, 114, 105, 122, 122, 108, 101]),
  ("DrizzleVote$CoastText", 181, "fog", [102, 111, 103]),
  ("DrizzleVote$CoastText", 183, "downpour", [100, 111, 119, 110, 112, 111, 117, 114]),
  ("DrizzleVote$CoastText", 82, "now", [110, 111, 119]),
  ("DrizzleVote$CoastText", 96, "place", [112, 108, 97, 99, 101]),
  ("DrizzleVote$CoastText", 189, "exposed", [101, 120, 112, 111, 115, 101, 100]),
  ("DrizzleVote$CoastText", 101, "paper", [112, 97, 112, 101, 114]),
  ("DrizzleVote$CoastText", 109, "quorum", [113, 117, 111, 114, 117, 109]),
  ("DrizzleVote$CoastText", 117, "aye", [97, 121, 101]),
  ("DrizzleVote$CoastText", 121, "wet", [119, 101, 116]),
  ("DrizzleVote$CoastText", 126, "hour", [104, 111, 117, 114]),
  ("DrizzleVote$CoastText", 130, "day", [100, 97, 121]),
  ("DrizzleVote", 91, "the text of the coast is wrong", [116, 104, 101, 32, 116, 101, 120, 116, 32, 111, 102, 32, 116, 104, 101, 32, 99, 111, 97, 115, 116, 32, 105, 115, 32, 119, 114, 111, 110, 103]),
  ("DrizzleVote", 101, "there are twelve texts", [116, 104, 101, 114, 101, 32, 97, 114, 101, 32, 116, 119, 101, 108, 118, 101, 32, 116, 101, 120, 116, 115]),
  ("DrizzleVote$LawText", 64, "feel", [102, 101, 101, 108]),
  ("DrizzleVote$LawText", 66, "dull", [100, 117, 108, 108]),
  ("DrizzleVote$LawText", 68, "lapse", [108, 97, 112, 115, 101]),
  ("DrizzleVote$LawText", 43, "if", [105, 102]),
  ("DrizzleVote$LawText", 83, "not", [110, 111, 116]),
  ("DrizzleVote$LawText", 94, "hat", [104, 97, 116]),
  ("DrizzleVote$LawText", 100, "wet", [119, 101, 116]),
  ("DrizzleVote$LawText", 102, "mover", [109, 111, 118, 101, 114]),
  ("DrizzleVote$LawText", 113, "member", [109, 101, 109, 98, 101, 114]),
  ("DrizzleVote$LawText", 115, "exposed", [101, 120, 112, 111, 115, 101, 100]),
  ("DrizzleVote$LawText", 117, "seats", [115, 101, 97, 116, 115]),
  ("DrizzleVote$LawText", 119, "sky", [115, 107, 121]),
  ("DrizzleVote$LawText", 121, "hour", [104, 111, 117, 114]),
  ("DrizzleVote$LawText", 123, "motion", [109, 111, 116, 105, 111, 110]),
  ("DrizzleVote$LawText", 125, "worth", [119, 111, 114, 116, 104]),
  ("DrizzleVote$LawText", 79, "and", [97, 110, 100]),
  ("DrizzleVote$LawText", 81, "or", [111, 114]),
  ("DrizzleVote", 118, "the text of the law is wrong", [116, 104, 101, 32, 116, 101, 120, 116, 32, 111, 102, 32, 116, 104, 101, 32, 108, 97, 119, 32, 105, 115, 32, 119, 114, 111, 110, 103]),
  ("DrizzleVote", 443, "there is no such member", [116, 104, 101, 114, 101, 32, 105, 115, 32, 110, 111, 32, 115, 117, 99, 104, 32, 109, 101, 109, 98, 101, 114]),
  ("DrizzleVote", 165, "a member has no such thing", [97, 32, 109, 101, 109, 98, 101, 114, 32, 104, 97, 115, 32, 110, 111, 32, 115, 117, 99, 104, 32, 116, 104, 105, 110, 103]),
  ("DrizzleVote", 446, "there is no such motion", [116, 104, 101, 114, 101, 32, 105, 115, 32, 110, 111, 32, 115, 117, 99, 104, 32, 109, 111, 116, 105, 111, 110]),
  ("DrizzleVote", 189, "a motion has no such thing", [97, 32, 109, 111, 116, 105, 111, 110, 32, 104, 97, 115, 32, 110, 111, 32, 115, 117, 99, 104, 32, 116, 104, 105, 110, 103]),
  ("DrizzleVote", 450, "there is no such sky", [116, 104, 101, 114, 101, 32, 105, 115, 32, 110, 111, 32, 115, 117, 99, 104, 32, 115, 107, 121]),
  ("DrizzleVote", 452, "there is no such place", [116, 104, 101, 114, 101, 32, 105, 115, 32, 110, 111, 32, 115, 117, 99, 104, 32, 112, 108, 97, 99, 101]),
  ("DrizzleVote", 454, "there is no such hour", [116, 104, 101, 114, 101, 32, 105, 115, 32, 110, 111, 32, 115, 117, 99, 104, 32, 104, 111, 117, 114]),
  ("DrizzleVote", 456, "the number is none", [116, 104, 101, 32, 110, 117, 109, 98, 101, 114, 32, 105, 115, 32, 110, 111, 110, 101]),
  ("DrizzleVote", 448, "the motion does not wait", [116, 104, 101, 32, 109, 111, 116, 105, 111, 110, 32, 100, 111, 101, 115, 32, 110, 111, 116, 32, 119, 97, 105, 116]),
  ("DrizzleVote", 246, "nothing stands in this hour", [110, 111, 116, 104, 105, 110, 103, 32, 115, 116, 97, 110, 100, 115, 32, 105, 110, 32, 116, 104, 105, 115, 32, 104, 111, 117, 114]),
  ("DrizzleVote", 253, "the motion is neither lost nor lapsed", [116, 104, 101, 32, 109, 111, 116, 105, 111, 110, 32, 105, 115, 32, 110, 101, 105, 116, 104, 101, 114, 32, 108, 111, 115, 116, 32, 110, 111, 114, 32, 108, 97, 112, 115, 101, 100]),
  ("DrizzleVote", 333, "the tape tells no cuffs", [116, 104, 101, 32, 116, 97, 112, 101, 32, 116, 101, 108, 108, 115, 32, 110, 111, 32, 99, 117, 102, 102, 115]),
  ("DrizzleVote", 458, "both are one", [98, 111, 116, 104, 32, 97, 114, 101, 32, 111, 110, 101]),
  ("DrizzleVote", 423, "a row of the log has no such thing", [97, 32, 114, 111, 119, 32, 111, 102, 32, 116, 104, 101, 32, 108, 111, 103, 32, 104, 97, 115, 32, 110, 111, 32, 115, 117, 99, 104, 32, 116, 104, 105, 110, 103]),
  ("DrizzleVoteModel", 250, "feel", [102, 101, 101, 108]),
  ("DrizzleVoteModel", 252, "dull", [100, 117, 108, 108]),
  ("DrizzleVoteModel", 254, "lapse", [108, 97, 112, 115, 101]),
  ("DrizzleVoteModel", 256, "if", [105, 102]),
  ("DrizzleVoteModel", 231, "not", [110, 111, 116]),
  ("DrizzleVoteModel", 115, "hat", [104, 97, 116]),
  ("DrizzleVoteModel", 176, "wet", [119, 101, 116]),
  ("DrizzleVoteModel", 223, "mover", [109, 111, 118, 101, 114]),
  ("DrizzleVoteModel", 147, "member", [109, 101, 109, 98, 101, 114]),
  ("DrizzleVoteModel", 142, "exposed", [101, 120, 112, 111, 115, 101, 100]),
  ("DrizzleVoteModel", 113, "seats", [115, 101, 97, 116, 115]),
  ("DrizzleVoteModel", 157, "sky", [115, 107, 121]),
  ("DrizzleVoteModel", 183, "hour", [104, 111, 117, 114]),
  ("DrizzleVoteModel", 152, "motion", [109, 111, 116, 105, 111, 110]),
  ("DrizzleVoteModel", 122, "worth", [119, 111, 114, 116, 104]),
  ("DrizzleVoteModel", 243, "and", [97, 110, 100]),
  ("DrizzleVoteModel", 248, "or", [111, 114]),
  ("DrizzleVoteModel", 108, "at", [97, 116]),
  ("DrizzleVoteModel", 117, "in", [105, 110]),
  ("DrizzleVoteModel", 119, "of", [111, 102]),
  ("DrizzleVoteModel", 120, "takes", [116, 97, 107, 101, 115]),
  ("DrizzleVoteModel", 124, "for", [102, 111, 114]),
  ("DrizzleVoteModel", 129, "sun", [115, 117, 110]),
  ("DrizzleVoteModel", 131, "dry", [100, 114, 121]),
  ("DrizzleVoteModel", 133, "drizzle", [100, 114, 105, 122, 122, 108, 101]),
  ("DrizzleVoteModel", 135, "fog", [102, 111, 103]),
  ("DrizzleVoteModel", 137, "downpour", [100, 111, 119, 110, 112, 111, 117, 114]),
  ("DrizzleVoteModel", 161, "now", [110, 111, 119]),
  ("DrizzleVoteModel", 163, "place", [112, 108, 97, 99, 101]),
  ("DrizzleVoteModel", 168, "quorum", [113, 117, 111, 114, 117, 109]),
  ("DrizzleVoteModel", 174, "aye", [97, 121, 101]),
  ("DrizzleVoteModel", 178, "paper", [112, 97, 112, 101, 114]),
  ("DrizzleVoteModel", 185, "day", [100, 97, 121])]
/-- the links to things of the nest's host that it keeps to itself -/
def zNest : List Cond := [.fieldLinkNest "DrizzleVote$CoastText" 194 "DrizzleVote$Words" "begin" "I" "DrizzleVote", .methodLinkNest "DrizzleVote$Council" 101 yX11_bitOf "DrizzleVote", .methodLinkNest "DrizzleVote$Motions" 50 yX11_bitOf "DrizzleVote", .methodLinkNest "DrizzleVote$Sides" 42 yX11_bitOf "DrizzleVote", .methodLinkNest "DrizzleVote$Council" 97 yX11_withBit "DrizzleVote", .methodLinkNest "DrizzleVote$Planner" 55 yX11_bitOf "DrizzleVote", .methodLinkNest "DrizzleVote$Cuffs" 37 yX11_bitOf "DrizzleVote", .declares ⟨"java/lang/RuntimeException", "<init>", "(Ljava/lang/String;)V"⟩, .declares ⟨"java/lang/Exception", "<init>", "(Ljava/lang/String;)V"⟩, .declares ⟨"java/lang/Throwable", "<init>", "(Ljava/lang/String;)V"⟩, .castable "java/lang/IllegalArgumentException" "java/lang/IllegalArgumentException", .castable "java/lang/UnsupportedOperationException" "java/lang/UnsupportedOperationException", .castable "java/lang/IndexOutOfBoundsException" "java/lang/IndexOutOfBoundsException", .castable "java/util/NoSuchElementException" "java/util/NoSuchElementException", .castable "java/lang/IllegalStateException" "java/lang/IllegalStateException"]
/-- classes that are not one of the other -/
def zNoC : List (String × String) := [("java/lang/IllegalArgumentException", "java/lang/UnsupportedOperationException"), ("java/lang/IllegalArgumentException", "java/lang/IndexOutOfBoundsException"), ("java/lang/IllegalArgumentException", "java/util/NoSuchElementException"), ("java/lang/IllegalArgumentException", "java/lang/IllegalStateException"), ("java/lang/UnsupportedOperationException", "java/lang/IllegalArgumentException"), ("java/lang/UnsupportedOperationException", "java/lang/IndexOutOfBoundsException"), ("java/lang/UnsupportedOperationException", "java/util/NoSuchElementException"), ("java/lang/UnsupportedOperationException", "java/lang/IllegalStateException"), ("java/lang/IndexOutOfBoundsException", "java/lang/IllegalArgumentException"), ("java/lang/IndexOutOfBoundsException", "java/lang/UnsupportedOperationException"), ("java/lang/IndexOutOfBoundsException", "java/util/NoSuchElementException"), ("java/lang/IndexOutOfBoundsException", "java/lang/IllegalStateException"), ("java/util/NoSuchElementException", "java/lang/IllegalArgumentException"), ("java/util/NoSuchElementException", "java/lang/UnsupportedOperationException"), ("java/util/NoSuchElementException", "java/lang/IndexOutOfBoundsException"), ("java/util/NoSuchElementException", "java/lang/IllegalStateException"), ("java/lang/IllegalStateException", "java/lang/IllegalArgumentException"), ("java/lang/IllegalStateException", "java/lang/UnsupportedOperationException"), ("java/lang/IllegalStateException", "java/lang/IndexOutOfBoundsException"), ("java/lang/IllegalStateException", "java/util/NoSuchElementException")]
/-! A machine of my own over the kit's: values are whole numbers (an int z stands for Int32.ofInt z, a long for Int64.ofInt z), references are numbers of cells, what the cells hold is a function of two whole numbers. -/
abbrev zAV : Type := Nat × Int
abbrev zI (x : Int) : zAV := (0, x)
abbrev zJ (x : Int) : zAV := (1, x)
abbrev zP (a : Int) : zAV := (2, a)
abbrev zX (a : Int) : zAV := (3, a)
abbrev zU : zAV := (4, 0)
/-- kind and length of each cell: 0 none; ci + 1 an object of class ci; 100 int[], 101 long[], 102 Council[], 103 the script, 104 a text -/
abbrev zLay : Type := Int → Nat × Int
abbrev zMem : Type := Int → Int → Int
/-- launch, the law's first heap, the classes, the array classes, the script (its cell, its length, what it holds), the texts' cells and their bytes' cells -/
abbrev zG : Type := Launch × Heap × va_G × (Nat → ClassId) × (Nat × Nat × (Nat → Int32)) × (Nat → Nat) × (Nat → Nat)
/-- a method: name, code, locals, answer, handlers -/
abbrev zK : Type := MethodName × ByteArray × Nat × Option FieldType × List (Nat × Nat × Nat × Nat)
/-- an end: an answer, or an exception of a class -/
abbrev zO : Type := Option zAV ⊕ String
abbrev zQ : Type := zO → zLay → zMem → Int → Prop
def zc (α : Int → Nat) (v : zAV) : Value := if v.1 = 0 then .int (Int32.ofInt v.2) else if v.1 = 1 then .long (Int64.ofInt v.2) else if v.1 = 2 then (if v.2 = -1 then .null else .ref (α v.2)) else .ref v.2.toNat
def zok (lay : zLay) (v : zAV) : Prop := v.1 = 2 → v.2 = -1 ∨ (lay v.2).1 ≠ 0
theorem zc_I (α : Int → Nat) (x : Int) : zc α (zI x) = .int (Int32.ofInt x) := rfl
theorem zc_J (α : Int → Nat) (x : Int) : zc α (zJ x) = .long (Int64.ofInt x) := rfl
theorem zc_N (α : Int → Nat) : zc α (zP (-1)) = .null := rfl
theorem zc_P (α : Int → Nat) {a : Int} (h : a ≠ -1) : zc α (zP a) = .ref (α a) := by
  show (if a = -1 then Value.null else .ref (α a)) = _
  rw [if_neg h]
theorem zc_X (α : Int → Nat) (a : Int) : zc α (zX a) = .ref a.toNat := rfl
def zTag (d : String) : Nat := if d = "I" then 0 else if d = "Z" then 0 else if d = "J" then 1 else 2
def zopt (α : Int → Nat) (x : Int) : Option Nat := if x = -1 then none else some (α x)
/-- the field k of an object of class number ci -/
def zfv (α : Int → Nat) (C : zMem) (o : Int) (r : vw_C) (k : Nat) : Value := zc α (zTag (r.2.1 k).2.2.1, C o k)
def zArr (G : zG) (α : Int → Nat) (C : zMem) (o : Int) (kd : Nat) (n : Nat) : Cell :=
  if kd = 100 then vp_cell (G.2.2.2.1 0) (n, .inl (fun j : Nat => Int32.ofInt (C o j)))
  else if kd = 101 then vp_cell (G.2.2.2.1 1) (n, .inr (.inl (fun j : Nat => Int64.ofInt (C o j))))
  else vp_cell (G.2.2.2.1 2) (n, .inr (.inr (.inr (.inr (fun j : Nat => zopt α (C o j))))))
/-- a cell of kinds up to 102, in the heap -/
def zCell (G : zG) (α : Int → Nat) (lay : zLay) (C : zMem) (o : Int) (H : Heap) : Prop :=
  if (lay o).1 < 100 then ∃ r : vw_C, vwCl[(lay o).1 - 1]? = some r ∧ t_OB (α o) (G.2.2.1.1 ((lay o).1 - 1)) r.2.2 (G.2.2.1.2 ((lay o).1 - 1)) H (zfv α C o r)
  else H[α o]? = some (zArr G α C o (lay o).1 (lay o).2.toNat)
/-- what a cell holds of references -/
def zRefs (lay : zLay) (C : zMem) (o : Int) : Prop :=
  ((lay o).1 < 100 → ∀ (r : vw_C) (k : Nat), vwCl[(lay o).1 - 1]? = some r → k < r.2.2 → zTag (r.2.1 k).2.2.1 = 2 → (C o k = -1 ∨ (lay (C o k)).1 ≠ 0)) ∧
  ((lay o).1 = 102 → ∀ j : Int, C o j = -1 ∨ (lay (C o j)).1 ≠ 0)
/-- the script is cell -5, the text n is cell -10 - n, its bytes cell -1000 - n -/
def zOld (G : zG) (α : Int → Nat) (lay : zLay) (C : zMem) (o : Int) : Prop :=
  ((lay o).1 = 103 → o = -5 ∧ α o = G.2.2.2.2.1.1 ∧ (lay o).2 = G.2.2.2.2.1.2.1 ∧ ∀ j : Nat, j < G.2.2.2.2.1.2.1 → Int32.ofInt (C o j) = G.2.2.2.2.1.2.2 j) ∧
  ((lay o).1 = 104 → ∃ (n : Nat) (q : String × Nat × String × List Int), o = -10 - n ∧ zStr[n]? = some q ∧ α o = G.2.2.2.2.2.1 n ∧ (lay o).2 = q.2.2.2.length ∧ ∀ j : Nat, j < q.2.2.2.length → C o j = q.2.2.2.getD j 0) ∧
  ((lay o).1 = 105 → ∃ (n : Nat) (q : String × Nat × String × List Int), o = -1000 - n ∧ zStr[n]? = some q ∧ α o = G.2.2.2.2.2.2 n ∧ (lay o).2 = q.2.2.2.length ∧ ∀ j : Nat, j < q.2.2.2.length → C o j = q.2.2.2.getD j 0)
def zWR (G : zG) (α : Int → Nat) (lay : zLay) (C : zMem) (nx : Int) (H : Heap) : Prop :=
  (∀ q : Nat, q < G.2.1.size → H[q]? = G.2.1[q]?) ∧ G.2.1.size ≤ H.size ∧ 0 ≤ nx ∧ (lay (-1)).1 = 0 ∧
  (∀ o : Int, (lay o).1 ≠ 0 → (lay o).1 ≤ 102 → 0 ≤ o ∧ o < nx ∧ G.2.1.size ≤ α o ∧ α o < H.size ∧ 0 ≤ (lay o).2 ∧ (lay o).2 < 2147483648 ∧ zCell G α lay C o H ∧ zRefs lay C o) ∧
  (∀ o o' : Int, (lay o).1 ≠ 0 → (lay o).1 ≤ 102 → (lay o').1 ≠ 0 → (lay o').1 ≤ 102 → α o = α o' → o = o') ∧
  (∀ o : Int, nx ≤ o → (lay o).1 = 0) ∧ (∀ o : Int, 0 ≤ o → (lay o).1 ≤ 102) ∧ (∀ o : Int, zOld G α lay C o)
def zExt (α₀ : Int → Nat) (lay₀ : zLay) (α : Int → Nat) (lay : zLay) : Prop := ∀ o : Int, (lay₀ o).1 ≠ 0 → α o = α₀ o ∧ lay o = lay₀ o
theorem zExt.rf (α : Int → Nat) (lay : zLay) : zExt α lay α lay := fun _ _ => ⟨rfl, rfl⟩
theorem zExt.trans {α₀ α₁ α₂ : Int → Nat} {l₀ l₁ l₂ : zLay} (h : zExt α₀ l₀ α₁ l₁) (h' : zExt α₁ l₁ α₂ l₂) : zExt α₀ l₀ α₂ l₂ := fun o ho => by
  obtain ⟨a, b⟩ := h o ho
  obtain ⟨c, d⟩ := h' o (by rw [b]; exact ho)
  exact ⟨c.trans a, d.trans b⟩
theorem zok.ext {α₀ α : Int → Nat} {lay₀ lay : zLay} (h : zExt α₀ lay₀ α lay) {v : zAV} (hv : zok lay₀ v) : zok lay v := fun ht => (hv ht).imp id (fun q => by rw [(h _ q).2]; exact q)
theorem zc.ext {α₀ α : Int → Nat} {lay₀ lay : zLay} (h : zExt α₀ lay₀ α lay) {v : zAV} (hv : zok lay₀ v) : zc α v = zc α₀ v := by
  obtain ⟨t, x⟩ := v
  unfold zc
  by_cases h0 : t = 0
  · simp [h0]
  · by_cases h1 : t = 1
    · simp [h1]
    · by_cases h2 : t = 2
      · subst h2
        rcases hv rfl with h3 | h3
        · simp only at h3
          simp [h3]
        · simp only at h3
          simp [(h _ h3).1]
      · simp [h0, h1, h2]
/-- the locals: a list, zU where nothing is said -/
def zL (α : Int → Nat) (ls : Array Slot) (nL : Nat) (L : List zAV) : Prop := ls.size = nL ∧ lv_wf ls ∧ L.length = nL ∧ ∀ (i : Nat) (v : zAV), L[i]? = some v → v.1 ≠ 4 → ls[i]? = some (.val (zc α v))
theorem zL.at {α : Int → Nat} {ls : Array Slot} {nL : Nat} {L : List zAV} (h : zL α ls nL L) {i : Nat} {v : zAV} (hi : L[i]? = some v) (hv : v.1 ≠ 4) : ls[i]? = some (.val (zc α v)) := h.2.2.2 i v hi hv
theorem zL.ext {α₀ α : Int → Nat} {lay₀ lay : zLay} (he : zExt α₀ lay₀ α lay) {ls : Array Slot} {nL : Nat} {L : List zAV} (hk : ∀ v ∈ L, zok lay₀ v) (h : zL α₀ ls nL L) : zL α ls nL L :=
  ⟨h.1, h.2.1, h.2.2.1, fun i v hi hv => by rw [zc.ext he (hk v (List.mem_of_getElem? hi))]; exact h.2.2.2 i v hi hv⟩
def zLv (α : Int → Nat) (L : List zAV) : List (Nat × Value) := (List.range L.length).filterMap (fun i => (L[i]?).bind (fun v => if v.1 = 4 then none else some (i, zc α v)))
theorem zLv_mem {α : Int → Nat} {L : List zAV} {q : Nat × Value} : q ∈ zLv α L ↔ ∃ v : zAV, L[q.1]? = some v ∧ v.1 ≠ 4 ∧ q.2 = zc α v := by
  unfold zLv
  rw [List.mem_filterMap]
  constructor
  · rintro ⟨i, hi, h⟩
    cases hv : L[i]? with
    | none => rw [hv] at h; simp at h
    | some v =>
      rw [hv] at h
      by_cases h4 : v.1 = 4
      · simp [h4] at h
      · simp only [Option.bind_some, if_neg h4] at h
        cases Option.some.inj h
        exact ⟨v, hv, h4, rfl⟩
  · rintro ⟨v, h1, h2, h3⟩
    have hl : q.1 < L.length := (List.getElem?_eq_some_iff.mp h1).1
    refine ⟨q.1, List.mem_range.mpr hl, ?_⟩
    rw [h1]
    simp only [Option.bind_some, if_neg h2]
    rw [← h3]
theorem zL.has {α : Int → Nat} {ls : Array Slot} {nL : Nat} {L : List zAV} (h : zL α ls nL L) : lv_has ls nL (zLv α L) := ⟨h.1, h.2.1, fun q hq => by
  obtain ⟨v, h1, h2, h3⟩ := zLv_mem.mp hq
  rw [h3]
  exact h.2.2.2 _ v h1 h2⟩
theorem zc_cat {α : Int → Nat} {v : zAV} (h : v.1 ≠ 1) : (zc α v).category = 1 := by
  unfold zc
  by_cases h0 : v.1 = 0
  · rw [if_pos h0]; rfl
  · rw [if_neg h0, if_neg h]
    split
    · split <;> rfl
    · rfl
theorem zc_cat2 {α : Int → Nat} {v : zAV} : (zc α v).category ≤ 2 := by
  unfold zc
  split
  · exact Nat.le_of_ble_eq_true rfl
  · split
    · exact Nat.le_of_ble_eq_true rfl
    · split
      · split <;> exact Nat.le_of_ble_eq_true rfl
      · exact Nat.le_of_ble_eq_true rfl
/-- behind a store of one word at i, nothing long ahead of it -/
theorem zL.set {α : Int → Nat} {ls ls' : Array Slot} {nL : Nat} {L : List zAV} {i : Nat} {v : zAV} (h : zL α ls nL L) (hp : ∀ w, i ≠ 0 → L[i - 1]? = some w → w.1 ≠ 1)
    (h' : lv_has ls' nL ((i, zc α v) :: (zLv α L).filter (fun q => !(q.1 == i) && !(q.1 + 1 == i && q.2.category == 2)))) : zL α ls' nL (L.set i v) := by
  refine ⟨h'.1, h'.2.1, by rw [List.length_set]; exact h.2.2.1, fun j w hj hw => ?_⟩
  by_cases hij : i = j
  · subst hij
    have hl : i < L.length := by
      have := (List.getElem?_eq_some_iff.mp hj).1
      rwa [List.length_set] at this
    rw [List.getElem?_set_self hl] at hj
    cases Option.some.inj hj
    exact h'.2.2 _ List.mem_cons_self
  · rw [List.getElem?_set_ne hij] at hj
    refine h'.2.2 (j, zc α w) (List.mem_cons_of_mem _ (List.mem_filter.mpr ⟨zLv_mem.mpr ⟨w, hj, hw, rfl⟩, ?_⟩))
    have e1 : (j == i) = false := by simp; omega
    rw [e1]
    by_cases hq : j + 1 = i
    · have hw1 : w.1 ≠ 1 := hp w (by omega) (by rw [show i - 1 = j by omega]; exact hj)
      rw [zc_cat hw1]
      simp
    · have e2 : (j + 1 == i) = false := by simpa using hq
      rw [e2]
      rfl
theorem zL.set2 {α : Int → Nat} {ls ls' : Array Slot} {nL : Nat} {L : List zAV} {i : Nat} {v : zAV} (h : zL α ls nL L) (hp : ∀ w, i ≠ 0 → L[i - 1]? = some w → w.1 ≠ 1)
    (h' : lv_has ls' nL ((i, zc α v) :: (zLv α L).filter (fun q => !(q.1 == i) && (!(q.1 == i + 1) && !(q.1 + 1 == i && q.2.category == 2))))) : zL α ls' nL ((L.set i v).set (i + 1) zU) := by
  refine ⟨h'.1, h'.2.1, by rw [List.length_set, List.length_set]; exact h.2.2.1, fun j w hj hw => ?_⟩
  by_cases hij2 : i + 1 = j
  · subst hij2
    have hl : i + 1 < (L.set i v).length := by
      have := (List.getElem?_eq_some_iff.mp hj).1
      rwa [List.length_set] at this
    rw [List.getElem?_set_self hl] at hj
    cases Option.some.inj hj
    exact absurd rfl hw
  rw [List.getElem?_set_ne hij2] at hj
  by_cases hij : i = j
  · subst hij
    have hl : i < L.length := by
      have := (List.getElem?_eq_some_iff.mp hj).1
      rwa [List.length_set] at this
    rw [List.getElem?_set_self hl] at hj
    cases Option.some.inj hj
    exact h'.2.2 _ List.mem_cons_self
  · rw [List.getElem?_set_ne hij] at hj
    refine h'.2.2 (j, zc α w) (List.mem_cons_of_mem _ (List.mem_filter.mpr ⟨zLv_mem.mpr ⟨w, hj, hw, rfl⟩, ?_⟩))
    have e1 : (j == i) = false := by simp; omega
    have e3 : (j == i + 1) = false := by simp; omega
    rw [e1, e3]
    by_cases hq : j + 1 = i
    · have hw1 : w.1 ≠ 1 := hp w (by omega) (by rw [show i - 1 = j by omega]; exact hj)
      rw [zc_cat hw1]
      simp
    · have e2 : (j + 1 == i) = false := by simpa using hq
      rw [e2]
      rfl
