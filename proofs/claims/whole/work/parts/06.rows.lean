/-! The judgement: from here the method comes to an end with Q. Rows of the instructions. -/
abbrev zTg : List Cond := lw_tbl.filter goodWord
def zcode (k : zK) : Cond := if k.2.2.2.2 = [] then .code k.1 k.2.1 k.2.2.1 k.2.2.2.1 else .codeWith k.1 k.2.1 k.2.2.1 k.2.2.2.1 k.2.2.2.2
def zws (k : zK) : List Cond := zcode k :: zTg
abbrev zTys (G : zG) : List (ClassId × FieldType) := [(G.2.2.2.1 0, .int), (G.2.2.2.1 1, .long), (G.2.2.2.1 2, .object RX1)]
/-- what the tables say, and what lies in the first heap -/
def zKn (G : zG) (U : State) : Prop :=
  va_K G.2.2.1 vwCl (zTys G) U ∧ (∀ w ∈ zNest, va_Nw w U) ∧
  va_X G.2.2.2.2.1.1 G.2.2.2.2.1.2.1 G.2.2.2.2.1.2.2 U G.2.1 ∧ G.2.2.2.2.1.1 < G.2.1.size ∧
  (∀ (n : Nat) (q : String × Nat × String × List Int), zStr[n]? = some q → vk_R q.1 q.2.1 q.2.2.1 (G.2.2.2.2.2.1 n) U ∧ vk_S 1 [q.2.2.2.length] [q.2.2.2.map Int32.ofInt] (fun _ => G.2.2.2.2.2.1 n) (fun _ => G.2.2.2.2.2.2 n) (fun a => G.2.1.size ≤ a) U G.2.1) ∧
  vx_Zq Bundle.tN "UNASSIGNED_STACK" Bundle.steD (fun a => G.2.1.size ≤ a) U G.2.1 ∧ vx_Zq Bundle.tN "SUPPRESSED_SENTINEL" Bundle.listD (fun a => G.2.1.size ≤ a) U G.2.1 ∧ ((∀ q ∈ zNoC, va_Nc q.1 q.2 U) ∧ va_AO RX1 U) ∧
  va_Z "java/lang/String" "COMPACT_STRINGS" "Z" (.int 1) (fun a => G.2.1.size ≤ a) U G.2.1 ∧ va_Zq "jdk/internal/util/Preconditions" "SIOOBE_FORMATTER" "Ljava/util/function/BiFunction;" (fun a => G.2.1.size ≤ a) U G.2.1
def zCx (G : zG) (k : zK) (p : Program) (e : Env) (R : Room) (s : State) (m : MethodId) (args : Array Value) (below : List Frame) (meth : Method) (c : Code) (D mc ms : Nat) : Prop :=
  p.tables.exec = Jvm.exec ∧ c.code = k.2.1 ∧ c.maxLocals = k.2.2.1 ∧ meth.sig.returnType = k.2.2.2.1 ∧ s.vm.findClass k.1.cls = some m.cls ∧ (∀ w ∈ zTg, w.before args s = true) ∧ meth.locks = false ∧ meth.name = k.1.name ∧
  c.exceptionTable.toList = tableOf k.2.2.2.2 ∧ zKn G s ∧ (∀ q : Nat, q < G.2.1.size → s.heap[q]? = G.2.1[q]?) ∧ G.2.1.size ≤ s.heap.size ∧ D ≤ R.frames ∧ 64 * D ≤ R.locals ∧ mc ≤ R.cells ∧ ms ≤ R.slots ∧ G.1.stackTraces = false
def zQc (G : zG) (Q : zQ) (α₀ : Int → Nat) (lay₀ : zLay) : Array Value → State → Outcome → State → Prop := fun _ st o t => ∃ (r : Option zAV) (lay : zLay) (C : zMem) (nx : Int) (α : Int → Nat),
  o = .returned (r.map (zc α)) ∧ Q (.inl r) lay C nx ∧ zWR G α lay C nx t.heap ∧ zExt α₀ lay₀ α lay ∧ (∀ v, r = some v → zok lay v) ∧ st.heap.size ≤ t.heap.size
def zXc (G : zG) (Q : zQ) (α₀ : Int → Nat) (lay₀ : zLay) : String → State → State → Prop := fun E st t => ∃ (lay : zLay) (C : zMem) (nx : Int) (α : Int → Nat),
  Q (.inr E) lay C nx ∧ zWR G α lay C nx t.heap ∧ zExt α₀ lay₀ α lay ∧ st.heap.size ≤ t.heap.size
def zF (G : zG) (Q : zQ) (α₀ : Int → Nat) (lay₀ : zLay) (below : List Frame) (args : Array Value) (s : State) (mc ms : Nat) : State → Prop := vx_MQ below (zQc G Q α₀ lay₀) (zXc G Q α₀ lay₀) args s mc ms (fun q => G.2.1.size ≤ q)
def zW (G : zG) (k : zK) (D : Nat) (Q : zQ) (pc : Nat) (L : List zAV) (st : List zAV) (lay : zLay) (C : zMem) (nx : Int) (b : Nat × Nat) : Prop :=
  ∀ (p : Program) (e : Env) (R : Room) (s : State) (m : MethodId) (args : Array Value) (below : List Frame) (meth : Method) (c : Code) (H : Heap) (locs : List Loc) (cells slots mc ms : Nat) (ls : Array Slot) (α₀ : Int → Nat) (lay₀ : zLay) (α : Int → Nat),
    zCx G k p e R s m args below meth c D mc ms → zExt α₀ lay₀ α lay → zWR G α lay C nx H → (∀ v ∈ L, zok lay v) → (∀ v ∈ st, zok lay v) → s.heap.size ≤ H.size → (∀ q ∈ locs, G.2.1.size ≤ q.base) → cells + b.1 ≤ mc → slots + b.2 ≤ ms → zL α ls k.2.2.1 L →
    W p G.1 e R s m args below meth c H locs cells slots (zF G Q α₀ lay₀ below args s mc ms) (F0 m pc ls (st.map (zc α)))
/-- the instruction at pc, and the next place -/
def zD (k : zK) (pc : Nat) (i : Instr) (n pc' : Nat) : Prop := decode k.2.1 pc = .ok (i, n) ∧ pc + n = pc'
theorem zD.mk {k : zK} {pc n : Nat} {i : Instr} (h : decode k.2.1 pc = .ok (i, n)) : zD k pc i n (pc + n) := ⟨h, rfl⟩
/-- a jump's aim -/
def zT (pc : Nat) (off : Int) (tgt : Nat) : Prop := (pc : Int) + off = (tgt : Int)
theorem zok_0 {lay : zLay} {t : Nat} {x : Int} (h : t ≠ 2) : zok lay (t, x) := fun q => absurd q h
theorem zok_I {lay : zLay} {x : Int} : zok lay (zI x) := fun q => absurd (show (0 : Nat) = 2 from q) (by decide)
theorem zok_J {lay : zLay} {x : Int} : zok lay (zJ x) := fun q => absurd (show (1 : Nat) = 2 from q) (by decide)
theorem zok_X {lay : zLay} {x : Int} : zok lay (zX x) := fun q => absurd (show (3 : Nat) = 2 from q) (by decide)
theorem zok_U {lay : zLay} : zok lay zU := fun q => absurd (show (4 : Nat) = 2 from q) (by decide)
theorem zok_N {lay : zLay} : zok lay (zP (-1)) := fun _ => Or.inl rfl
theorem zok_P {lay : zLay} {a : Int} (h : (lay a).1 ≠ 0) : zok lay (zP a) := fun _ => Or.inr h
theorem zok_c {lay : zLay} {v : zAV} {st : List zAV} (h : zok lay v) (hs : ∀ v ∈ st, zok lay v) : ∀ w ∈ v :: st, zok lay w := fun w hw => (List.mem_cons.mp hw).elim (fun e => e ▸ h) (hs w)
theorem zok_t {lay : zLay} {v : zAV} {st : List zAV} (hs : ∀ w ∈ v :: st, zok lay w) : ∀ w ∈ st, zok lay w := fun w hw => hs w (List.mem_cons_of_mem _ hw)
theorem zok_h {lay : zLay} {v : zAV} {st : List zAV} (hs : ∀ w ∈ v :: st, zok lay w) : zok lay v := hs v List.mem_cons_self
theorem zok_set {lay : zLay} {v : zAV} {L : List zAV} {i : Nat} (h : zok lay v) (hs : ∀ v ∈ L, zok lay v) : ∀ w ∈ L.set i v, zok lay w := fun w hw => (List.mem_or_eq_of_mem_set hw).elim (hs w) (fun e => e ▸ h)
abbrev zin (x : Int) : Prop := -2147483648 ≤ x ∧ x < 2147483648
abbrev zin8 (x : Int) : Prop := -9223372036854775808 ≤ x ∧ x < 9223372036854775808
theorem zto {x : Int} (h : zin x) : (Int32.ofInt x).toInt = x := Int32.toInt_ofInt_of_le h.1 h.2
theorem zto8 {x : Int} (h : zin8 x) : (Int64.ofInt x).toInt = x := Int64.toInt_ofInt_of_le h.1 h.2
theorem zlt {x y : Int} (hx : zin x) (hy : zin y) : Int32.ofInt x < Int32.ofInt y ↔ x < y := by rw [Int32.lt_iff_toInt_lt, zto hx, zto hy]
theorem zle {x y : Int} (hx : zin x) (hy : zin y) : Int32.ofInt x ≤ Int32.ofInt y ↔ x ≤ y := by rw [Int32.le_iff_toInt_le, zto hx, zto hy]
theorem zeq {x y : Int} (hx : zin x) (hy : zin y) : Int32.ofInt x = Int32.ofInt y ↔ x = y := by rw [← Int32.toInt_inj, zto hx, zto hy]
theorem zeq8 {x y : Int} (hx : zin8 x) (hy : zin8 y) : Int64.ofInt x = Int64.ofInt y ↔ x = y := by rw [← Int64.toInt_inj, zto8 hx, zto8 hy]
theorem zlt8 {x y : Int} (hx : zin8 x) (hy : zin8 y) : Int64.ofInt x < Int64.ofInt y ↔ x < y := by rw [Int64.lt_iff_toInt_lt, zto8 hx, zto8 hy]
theorem zdive {x y : Int} (h : 0 ≤ x ∧ x < 2147483648 ∧ 0 < y ∧ y < 2147483648) : Int32.ofInt (x / y) = Int32.ofInt x / Int32.ofInt y := by
  have h1 : 0 ≤ x / y := Int.ediv_nonneg h.1 (by omega)
  have h2 : x / y ≤ x := Int.ediv_le_self y h.1
  rw [← Int32.toInt_inj, Int32.toInt_div_of_ne_right _ _ (fun q => absurd ((zeq (x := y) (y := -1) ⟨by omega, by omega⟩ ⟨by omega, by omega⟩).mp q) (by omega)), zto (x := x) ⟨by omega, by omega⟩, zto (x := y) ⟨by omega, by omega⟩, Int.tdiv_eq_ediv_of_nonneg h.1]
  exact zto ⟨by omega, by omega⟩
theorem z0of : (0 : Int32) = Int32.ofInt 0 := rfl
section ZROW
variable {G : zG} {k : zK} {D : Nat} {Q : zQ} {pc pc' : Nat} {L st : List zAV} {lay : zLay} {C : zMem} {nx : Int} {b : Nat × Nat}
/-- a row that only works on the stack -/
theorem zW.go {st st' : List zAV} (hok : (∀ v ∈ L, zok lay v) → (∀ v ∈ st, zok lay v) → ∀ v ∈ st', zok lay v)
    (h : ∀ (p : Program) (e : Env) (R : Room) (s : State) (m : MethodId) (args : Array Value) (below : List Frame) (meth : Method) (c : Code) (H : Heap) (locs : List Loc) (cells slots mc ms : Nat) (ls : Array Slot) (α : Int → Nat) (Qf : State → Prop), zCx G k p e R s m args below meth c D mc ms → (∀ v ∈ st, zok lay v) → zL α ls k.2.2.1 L →
      W p G.1 e R s m args below meth c H locs cells slots Qf (F0 m pc' ls (st'.map (zc α))) → W p G.1 e R s m args below meth c H locs cells slots Qf (F0 m pc ls (st.map (zc α))))
    (w : zW G k D Q pc' L st' lay C nx b) : zW G k D Q pc L st lay C nx b := by
  intro p e R s m args below meth c H locs cells slots mc ms ls α₀ lay₀ α cx he hw hL hs hz hlo hc hm hl
  exact h p e R s m args below meth c H locs cells slots mc ms ls α _ cx hs hl (w p e R s m args below meth c H locs cells slots mc ms ls α₀ lay₀ α cx he hw hL (hok hL hs) hz hlo hc hm hl)
/-- a row that branches -/
theorem zW.br {st st' : List zAV} {P : Prop} {t f : Nat} (hok : (∀ v ∈ st, zok lay v) → ∀ v ∈ st', zok lay v)
    (h : ∀ (p : Program) (e : Env) (R : Room) (s : State) (m : MethodId) (args : Array Value) (below : List Frame) (meth : Method) (c : Code) (H : Heap) (locs : List Loc) (cells slots mc ms : Nat) (ls : Array Slot) (α : Int → Nat) (Qf : State → Prop), zCx G k p e R s m args below meth c D mc ms → (∀ v ∈ st, zok lay v) →
      (P → W p G.1 e R s m args below meth c H locs cells slots Qf (F0 m t ls (st'.map (zc α)))) → (¬ P → W p G.1 e R s m args below meth c H locs cells slots Qf (F0 m f ls (st'.map (zc α)))) → W p G.1 e R s m args below meth c H locs cells slots Qf (F0 m pc ls (st.map (zc α))))
    (wt : P → zW G k D Q t L st' lay C nx b) (wf : ¬ P → zW G k D Q f L st' lay C nx b) : zW G k D Q pc L st lay C nx b := by
  intro p e R s m args below meth c H locs cells slots mc ms ls α₀ lay₀ α cx he hw hL hs hz hlo hc hm hl
  exact h p e R s m args below meth c H locs cells slots mc ms ls α _ cx hs (fun hp => wt hp p e R s m args below meth c H locs cells slots mc ms ls α₀ lay₀ α cx he hw hL (hok hs) hz hlo hc hm hl) (fun hp => wf hp p e R s m args below meth c H locs cells slots mc ms ls α₀ lay₀ α cx he hw hL (hok hs) hz hlo hc hm hl)
theorem z_iconst {x : Int} (hd : zD k pc (.iconst x) 1 pc') (w : zW G k D Q pc' L (zI x :: st) lay C nx b) : zW G k D Q pc L (st) lay C nx b := by
  refine zW.go (fun hL hs => zok_c zok_I hs) ?_ w
  intro p e R s m args below meth c H locs cells slots mc ms ls α Qf cx hs hl w
  rw [← hd.2] at w
  exact lv_iconst cx.1 cx.2.1 hd.1 rfl w
theorem z_bipush {x : Int} (hd : zD k pc (.bipush x) 2 pc') (hx : -128 ≤ x ∧ x < 128) (w : zW G k D Q pc' L (zI x :: st) lay C nx b) : zW G k D Q pc L (st) lay C nx b := by
  refine zW.go (fun hL hs => zok_c zok_I hs) ?_ w
  intro p e R s m args below meth c H locs cells slots mc ms ls α Qf cx hs hl w
  rw [← hd.2] at w
  refine lv_bipush cx.1 cx.2.1 hd.1 ?_ w
  rw [← Int32.toInt_inj, Int8.toInt_toInt32, Int8.toInt_ofInt_of_le (by omega) (by omega), zto (x := x) ⟨by omega, by omega⟩]
theorem z_sipush {x : Int} (hd : zD k pc (.sipush x) 3 pc') (hx : -32768 ≤ x ∧ x < 32768) (w : zW G k D Q pc' L (zI x :: st) lay C nx b) : zW G k D Q pc L (st) lay C nx b := by
  refine zW.go (fun hL hs => zok_c zok_I hs) ?_ w
  intro p e R s m args below meth c H locs cells slots mc ms ls α Qf cx hs hl w
  rw [← hd.2] at w
  refine lv_sipush cx.1 cx.2.1 hd.1 ?_ w
  rw [← Int32.toInt_inj, Int16.toInt_toInt32, Int16.toInt_ofInt_of_le (by omega) (by omega), zto (x := x) ⟨by omega, by omega⟩]
theorem z_lconst0 (hd : zD k pc (.lconst 0) 1 pc') (w : zW G k D Q pc' L (zJ 0 :: st) lay C nx b) : zW G k D Q pc L (st) lay C nx b := by
  refine zW.go (fun hL hs => zok_c zok_J hs) ?_ w
  intro p e R s m args below meth c H locs cells slots mc ms ls α Qf cx hs hl w
  rw [← hd.2] at w
  exact lv_lconst cx.1 cx.2.1 hd.1 rfl w
theorem z_lconst1 (hd : zD k pc (.lconst 1) 1 pc') (w : zW G k D Q pc' L (zJ 1 :: st) lay C nx b) : zW G k D Q pc L (st) lay C nx b := by
  refine zW.go (fun hL hs => zok_c zok_J hs) ?_ w
  intro p e R s m args below meth c H locs cells slots mc ms ls α Qf cx hs hl w
  rw [← hd.2] at w
  exact lv_lconst cx.1 cx.2.1 hd.1 rfl w
theorem z_ldc {x : Int} {i : Nat} (hd : zD k pc (.ldc i) 2 pc') (hk : Cond.constant k.1.cls i (Int32.ofInt x) ∈ zTg) (w : zW G k D Q pc' L (zI x :: st) lay C nx b) : zW G k D Q pc L (st) lay C nx b := by
  refine zW.go (fun hL hs => zok_c zok_I hs) ?_ w
  intro p e R s m args below meth c H locs cells slots mc ms ls α Qf cx hs hl w
  rw [← hd.2] at w
  exact lv_ldc cx.1 cx.2.1 cx.2.2.2.2.1 (cx.2.2.2.2.2.1 _ hk) hd.1 w
theorem z_ldcw {x : Int} {i : Nat} (hd : zD k pc (.ldc_w i) 3 pc') (hk : Cond.constant k.1.cls i (Int32.ofInt x) ∈ zTg) (w : zW G k D Q pc' L (zI x :: st) lay C nx b) : zW G k D Q pc L (st) lay C nx b := by
  refine zW.go (fun hL hs => zok_c zok_I hs) ?_ w
  intro p e R s m args below meth c H locs cells slots mc ms ls α Qf cx hs hl w
  rw [← hd.2] at w
  exact lv_ldcw cx.1 cx.2.1 cx.2.2.2.2.1 (cx.2.2.2.2.2.1 _ hk) hd.1 w
theorem z_ldc2 {x : Int} {i : Nat} (hd : zD k pc (.ldc2_w i) 3 pc') (hk : Cond.constantLong k.1.cls i (Int64.ofInt x) ∈ zTg) (w : zW G k D Q pc' L (zJ x :: st) lay C nx b) : zW G k D Q pc L (st) lay C nx b := by
  refine zW.go (fun hL hs => zok_c zok_J hs) ?_ w
  intro p e R s m args below meth c H locs cells slots mc ms ls α Qf cx hs hl w
  rw [← hd.2] at w
  exact lv_ldc2 cx.1 cx.2.1 cx.2.2.2.2.1 (cx.2.2.2.2.2.1 _ hk) hd.1 w
theorem zg_iload {x : Int} {i : Nat} (hd : zD k pc (.iload i) 2 pc') (hi : L[i]? = some (zI x)) (w : zW G k D Q pc' L (zI x :: st) lay C nx b) : zW G k D Q pc L (st) lay C nx b := by
  refine zW.go (fun hL hs => zok_c zok_I hs) ?_ w
  intro p e R s m args below meth c H locs cells slots mc ms ls α Qf cx hs hl w
  rw [← hd.2] at w
  exact lv_iload cx.1 cx.2.1 hd.1 (hl.at hi (Nat.ne_of_beq_eq_false rfl)) w
theorem zg_iload_n {x : Int} {i : Nat} {n : Fin 4} (hd : zD k pc (.iload_n n) 1 pc') (hn : (n : Nat) = i) (hi : L[i]? = some (zI x)) (w : zW G k D Q pc' L (zI x :: st) lay C nx b) : zW G k D Q pc L (st) lay C nx b := by
  refine zW.go (fun hL hs => zok_c zok_I hs) ?_ w
  intro p e R s m args below meth c H locs cells slots mc ms ls α Qf cx hs hl w
  rw [← hd.2] at w
  exact lv_iload_n cx.1 cx.2.1 hd.1 hn (hl.at hi (Nat.ne_of_beq_eq_false rfl)) w
theorem zg_lload {x : Int} {i : Nat} (hd : zD k pc (.lload i) 2 pc') (hi : L[i]? = some (zJ x)) (w : zW G k D Q pc' L (zJ x :: st) lay C nx b) : zW G k D Q pc L (st) lay C nx b := by
  refine zW.go (fun hL hs => zok_c zok_J hs) ?_ w
  intro p e R s m args below meth c H locs cells slots mc ms ls α Qf cx hs hl w
  rw [← hd.2] at w
  exact lv_lload cx.1 cx.2.1 hd.1 (hl.at hi (Nat.ne_of_beq_eq_false rfl)) w
theorem zg_lload_n {x : Int} {i : Nat} {n : Fin 4} (hd : zD k pc (.lload_n n) 1 pc') (hn : (n : Nat) = i) (hi : L[i]? = some (zJ x)) (w : zW G k D Q pc' L (zJ x :: st) lay C nx b) : zW G k D Q pc L (st) lay C nx b := by
  refine zW.go (fun hL hs => zok_c zok_J hs) ?_ w
  intro p e R s m args below meth c H locs cells slots mc ms ls α Qf cx hs hl w
  rw [← hd.2] at w
  exact lv_lload_n cx.1 cx.2.1 hd.1 hn (hl.at hi (Nat.ne_of_beq_eq_false rfl)) w
theorem zg_aload {a : Int} {i : Nat} (hd : zD k pc (.aload i) 2 pc') (hi : L[i]? = some (zP a)) (h1 : a ≠ -1) (w : zW G k D Q pc' L (zP a :: st) lay C nx b) : zW G k D Q pc L (st) lay C nx b := by
  refine zW.go (fun hL hs => zok_c (hL _ (List.mem_of_getElem? hi)) hs) ?_ w
  intro p e R s m args below meth c H locs cells slots mc ms ls α Qf cx hs hl w
  rw [← hd.2] at w
  have h2 := hl.at hi (Nat.ne_of_beq_eq_false rfl)
  rw [zc_P α h1] at h2
  rw [List.map_cons, zc_P α h1] at w
  exact lv_aload cx.1 cx.2.1 hd.1 h2 w
theorem zg_aload_n {a : Int} {i : Nat} {n : Fin 4} (hd : zD k pc (.aload_n n) 1 pc') (hn : (n : Nat) = i) (hi : L[i]? = some (zP a)) (h1 : a ≠ -1) (w : zW G k D Q pc' L (zP a :: st) lay C nx b) : zW G k D Q pc L (st) lay C nx b := by
  refine zW.go (fun hL hs => zok_c (hL _ (List.mem_of_getElem? hi)) hs) ?_ w
  intro p e R s m args below meth c H locs cells slots mc ms ls α Qf cx hs hl w
  rw [← hd.2] at w
  have h2 := hl.at hi (Nat.ne_of_beq_eq_false rfl)
  rw [zc_P α h1] at h2
  rw [List.map_cons, zc_P α h1] at w
  exact lv_aload_n cx.1 cx.2.1 hd.1 hn h2 w
theorem zg_aload_s {a : Int} {i : Nat} (hd : zD k pc (.aload i) 2 pc') (hi : L[i]? = some (zP a)) (w : a ≠ -1 → zW G k D Q pc' L (zP a :: st) lay C nx b) (h1 : a ≠ -1) : zW G k D Q pc L st lay C nx b := zg_aload hd hi h1 (w h1)
theorem z_iadd {x y : Int} (hd : zD k pc .iadd 1 pc') (w : zW G k D Q pc' L (zI (x + y) :: st) lay C nx b) : zW G k D Q pc L (zI y :: zI x :: st) lay C nx b := by
  refine zW.go (fun hL hs => zok_c zok_I (zok_t (zok_t hs))) ?_ w
  intro p e R s m args below meth c H locs cells slots mc ms ls α Qf cx hs hl w
  rw [← hd.2] at w
  rw [List.map_cons, zc_I, Int32.ofInt_add] at w
  exact lv_iadd cx.1 cx.2.1 hd.1 w
theorem z_isub {x y : Int} (hd : zD k pc .isub 1 pc') (w : zW G k D Q pc' L (zI (x - y) :: st) lay C nx b) : zW G k D Q pc L (zI y :: zI x :: st) lay C nx b := by
  refine zW.go (fun hL hs => zok_c zok_I (zok_t (zok_t hs))) ?_ w
  intro p e R s m args below meth c H locs cells slots mc ms ls α Qf cx hs hl w
  rw [← hd.2] at w
  rw [List.map_cons, zc_I, Int32.ofInt_sub] at w
  exact lv_isub cx.1 cx.2.1 hd.1 w
theorem z_imul {x y : Int} (hd : zD k pc .imul 1 pc') (w : zW G k D Q pc' L (zI (x * y) :: st) lay C nx b) : zW G k D Q pc L (zI y :: zI x :: st) lay C nx b := by
  refine zW.go (fun hL hs => zok_c zok_I (zok_t (zok_t hs))) ?_ w
  intro p e R s m args below meth c H locs cells slots mc ms ls α Qf cx hs hl w
  rw [← hd.2] at w
  rw [List.map_cons, zc_I, Int32.ofInt_mul] at w
  exact lv_imul cx.1 cx.2.1 hd.1 w
theorem z_ladd {x y : Int} (hd : zD k pc .ladd 1 pc') (w : zW G k D Q pc' L (zJ (x + y) :: st) lay C nx b) : zW G k D Q pc L (zJ y :: zJ x :: st) lay C nx b := by
  refine zW.go (fun hL hs => zok_c zok_J (zok_t (zok_t hs))) ?_ w
  intro p e R s m args below meth c H locs cells slots mc ms ls α Qf cx hs hl w
  rw [← hd.2] at w
  rw [List.map_cons, zc_J, Int64.ofInt_add] at w
  exact lv_ladd cx.1 cx.2.1 hd.1 w
theorem z_ineg {x : Int} (hd : zD k pc .ineg 1 pc') (w : zW G k D Q pc' L (zI (-x) :: st) lay C nx b) : zW G k D Q pc L (zI x :: st) lay C nx b := by
  refine zW.go (fun hL hs => zok_c zok_I (zok_t hs)) ?_ w
  intro p e R s m args below meth c H locs cells slots mc ms ls α Qf cx hs hl w
  rw [← hd.2] at w
  rw [List.map_cons, zc_I, Int32.ofInt_neg] at w
  exact lv_ineg cx.1 cx.2.1 hd.1 w
def zand (x y : Int) : Int := (Int32.ofInt x &&& Int32.ofInt y).toInt
theorem z_iand {x y : Int} (hd : zD k pc .iand 1 pc') (w : zW G k D Q pc' L (zI (zand x y) :: st) lay C nx b) : zW G k D Q pc L (zI y :: zI x :: st) lay C nx b := by
  refine zW.go (fun hL hs => zok_c zok_I (zok_t (zok_t hs))) ?_ w
  intro p e R s m args below meth c H locs cells slots mc ms ls α Qf cx hs hl w
  rw [← hd.2] at w
  rw [List.map_cons, zc_I, zand, Int32.ofInt_toInt] at w
  exact lv_iand cx.1 cx.2.1 hd.1 w
def zor (x y : Int) : Int := (Int32.ofInt x ||| Int32.ofInt y).toInt
theorem z_ior {x y : Int} (hd : zD k pc .ior 1 pc') (w : zW G k D Q pc' L (zI (zor x y) :: st) lay C nx b) : zW G k D Q pc L (zI y :: zI x :: st) lay C nx b := by
  refine zW.go (fun hL hs => zok_c zok_I (zok_t (zok_t hs))) ?_ w
  intro p e R s m args below meth c H locs cells slots mc ms ls α Qf cx hs hl w
  rw [← hd.2] at w
  rw [List.map_cons, zc_I, zor, Int32.ofInt_toInt] at w
  exact lv_ior cx.1 cx.2.1 hd.1 w
def zxor (x y : Int) : Int := (Int32.ofInt x ^^^ Int32.ofInt y).toInt
theorem z_ixor {x y : Int} (hd : zD k pc .ixor 1 pc') (w : zW G k D Q pc' L (zI (zxor x y) :: st) lay C nx b) : zW G k D Q pc L (zI y :: zI x :: st) lay C nx b := by
  refine zW.go (fun hL hs => zok_c zok_I (zok_t (zok_t hs))) ?_ w
  intro p e R s m args below meth c H locs cells slots mc ms ls α Qf cx hs hl w
  rw [← hd.2] at w
  rw [List.map_cons, zc_I, zxor, Int32.ofInt_toInt] at w
  exact lv_ixor cx.1 cx.2.1 hd.1 w
def zshl (x y : Int) : Int := (Int32.ofInt x <<< (Int32.ofInt y &&& 31)).toInt
theorem z_ishl {x y : Int} (hd : zD k pc .ishl 1 pc') (w : zW G k D Q pc' L (zI (zshl x y) :: st) lay C nx b) : zW G k D Q pc L (zI y :: zI x :: st) lay C nx b := by
  refine zW.go (fun hL hs => zok_c zok_I (zok_t (zok_t hs))) ?_ w
  intro p e R s m args below meth c H locs cells slots mc ms ls α Qf cx hs hl w
  rw [← hd.2] at w
  rw [List.map_cons, zc_I, zshl, Int32.ofInt_toInt] at w
  exact lv_ishl cx.1 cx.2.1 hd.1 w
def zshr (x y : Int) : Int := (Int32.ofInt x >>> (Int32.ofInt y &&& 31)).toInt
theorem z_ishr {x y : Int} (hd : zD k pc .ishr 1 pc') (w : zW G k D Q pc' L (zI (zshr x y) :: st) lay C nx b) : zW G k D Q pc L (zI y :: zI x :: st) lay C nx b := by
  refine zW.go (fun hL hs => zok_c zok_I (zok_t (zok_t hs))) ?_ w
  intro p e R s m args below meth c H locs cells slots mc ms ls α Qf cx hs hl w
  rw [← hd.2] at w
  rw [List.map_cons, zc_I, zshr, Int32.ofInt_toInt] at w
  exact lv_ishr cx.1 cx.2.1 hd.1 w
def zushr (x y : Int) : Int := (((Int32.ofInt x).toUInt32 >>> ((Int32.ofInt y).toUInt32 &&& Int32.toUInt32 31)).toInt32).toInt
theorem z_iushr {x y : Int} (hd : zD k pc .iushr 1 pc') (w : zW G k D Q pc' L (zI (zushr x y) :: st) lay C nx b) : zW G k D Q pc L (zI y :: zI x :: st) lay C nx b := by
  refine zW.go (fun hL hs => zok_c zok_I (zok_t (zok_t hs))) ?_ w
  intro p e R s m args below meth c H locs cells slots mc ms ls α Qf cx hs hl w
  rw [← hd.2] at w
  rw [List.map_cons, zc_I, zushr, Int32.ofInt_toInt] at w
  exact lv_iushr cx.1 cx.2.1 hd.1 rfl w
theorem z_idiv {x y : Int} (hd : zD k pc .idiv 1 pc') (h : 0 ≤ x ∧ x < 2147483648 ∧ 0 < y ∧ y < 2147483648) (w : zW G k D Q pc' L (zI (x / y) :: st) lay C nx b) : zW G k D Q pc L (zI y :: zI x :: st) lay C nx b := by
  refine zW.go (fun hL hs => zok_c zok_I (zok_t (zok_t hs))) ?_ w
  intro p e R s m args below meth c H locs cells slots mc ms ls α Qf cx hs hl w
  rw [← hd.2] at w
  rw [List.map_cons, zc_I, zdive h] at w
  exact lv_idiv cx.1 cx.2.1 hd.1 (fun q => absurd ((zeq (x := y) (y := 0) ⟨by omega, by omega⟩ ⟨by omega, by omega⟩).mp q) (by omega)) w
theorem z_irem {x y : Int} (hd : zD k pc .irem 1 pc') (h : 0 ≤ x ∧ x < 2147483648 ∧ 0 < y ∧ y < 2147483648) (w : zW G k D Q pc' L (zI (x % y) :: st) lay C nx b) : zW G k D Q pc L (zI y :: zI x :: st) lay C nx b := by
  refine zW.go (fun hL hs => zok_c zok_I (zok_t (zok_t hs))) ?_ w
  intro p e R s m args below meth c H locs cells slots mc ms ls α Qf cx hs hl w
  rw [← hd.2] at w
  rw [List.map_cons, zc_I, show x % y = x - x / y * y by rw [Int.emod_def, Int.mul_comm], Int32.ofInt_sub, Int32.ofInt_mul, zdive h] at w
  exact lv_irem cx.1 cx.2.1 hd.1 (fun q => absurd ((zeq (x := y) (y := 0) ⟨by omega, by omega⟩ ⟨by omega, by omega⟩).mp q) (by omega)) w
theorem z_i2l {x : Int} (hd : zD k pc .i2l 1 pc') (h : zin x) (w : zW G k D Q pc' L (zJ x :: st) lay C nx b) : zW G k D Q pc L (zI x :: st) lay C nx b := by
  refine zW.go (fun hL hs => zok_c zok_J (zok_t hs)) ?_ w
  intro p e R s m args below meth c H locs cells slots mc ms ls α Qf cx hs hl w
  rw [← hd.2] at w
  refine lv_i2l cx.1 cx.2.1 hd.1 ?_ w
  rw [← Int64.toInt_inj, Int32.toInt_toInt64, zto h, zto8 (x := x) ⟨by omega, by omega⟩]
theorem z_l2i {x : Int} (hd : zD k pc .l2i 1 pc') (h : zin x) (w : zW G k D Q pc' L (zI x :: st) lay C nx b) : zW G k D Q pc L (zJ x :: st) lay C nx b := by
  refine zW.go (fun hL hs => zok_c zok_I (zok_t hs)) ?_ w
  intro p e R s m args below meth c H locs cells slots mc ms ls α Qf cx hs hl w
  rw [← hd.2] at w
  refine lv_l2i cx.1 cx.2.1 hd.1 ?_ w
  rw [← Int32.toInt_inj, Int64.toInt_toInt32, zto8 (x := x) ⟨by omega, by omega⟩, zto h]
  exact Int.bmod_eq_of_le (by omega) (by omega)
theorem z_dup {v : zAV} (hd : zD k pc .dup 1 pc') (hv : v.1 ≠ 1) (w : zW G k D Q pc' L (v :: v :: st) lay C nx b) : zW G k D Q pc L (v :: st) lay C nx b := by
  refine zW.go (fun hL hs => zok_c (zok_h hs) hs) ?_ w
  intro p e R s m args below meth c H locs cells slots mc ms ls α Qf cx hs hl w
  rw [← hd.2] at w
  exact lv_dup cx.1 cx.2.1 hd.1 (zc_cat hv) w
theorem z_pop {v : zAV} (hd : zD k pc .pop 1 pc') (hv : v.1 ≠ 1) (w : zW G k D Q pc' L (st) lay C nx b) : zW G k D Q pc L (v :: st) lay C nx b := by
  refine zW.go (fun hL hs => zok_t hs) ?_ w
  intro p e R s m args below meth c H locs cells slots mc ms ls α Qf cx hs hl w
  rw [← hd.2] at w
  exact lv_pop cx.1 cx.2.1 hd.1 (zc_cat hv) w
theorem z_dup2 {v u : zAV} (hd : zD k pc .dup2 1 pc') (hv : v.1 ≠ 1) (hu : u.1 ≠ 1) (w : zW G k D Q pc' L (v :: u :: v :: u :: st) lay C nx b) : zW G k D Q pc L (v :: u :: st) lay C nx b := by
  refine zW.go (fun hL hs => zok_c (zok_h hs) (zok_c (zok_h (zok_t hs)) hs)) ?_ w
  intro p e R s m args below meth c H locs cells slots mc ms ls α Qf cx hs hl w
  rw [← hd.2] at w
  exact lv_dup2_11 cx.1 cx.2.1 hd.1 (zc_cat hv) (zc_cat hu) w
theorem z_goto {off : Int} {n tgt : Nat} (hd : zD k pc (.goto off) 3 n) (ht : zT pc off tgt) (w : zW G k D Q tgt L st lay C nx b) : zW G k D Q pc L st lay C nx b := by
  refine zW.go (fun _ hs => hs) ?_ w
  intro p e R s m args below meth c H locs cells slots mc ms ls α Qf cx hs hl w
  exact lv_goto cx.1 cx.2.1 hd.1 ht w
theorem z_icmp_eq {x y : Int} {off : Int} {tgt : Nat} (hd : zD k pc (.if_icmp .eq off) 3 pc') (ht : zT pc off tgt) (h : zin x ∧ zin y) (wt : x = y → zW G k D Q tgt L st lay C nx b) (wf : ¬ (x = y) → zW G k D Q pc' L st lay C nx b) : zW G k D Q pc L (zI y :: zI x :: st) lay C nx b := by
  refine zW.br (P := x = y) (fun hs => zok_t (zok_t hs)) ?_ wt wf
  intro p e R s m args below meth c H locs cells slots mc ms ls α Qf cx hs wt wf
  rw [← hd.2] at wf
  exact lv_icmp_eq cx.1 cx.2.1 hd.1 ht (fun q => wt ((zeq h.1 h.2).mp q)) (fun q => wf (fun z => q ((zeq h.1 h.2).mpr z)))
theorem z_if_eq {x : Int} {off : Int} {tgt : Nat} (hd : zD k pc (.ifCond .eq off) 3 pc') (ht : zT pc off tgt) (h : zin x) (wt : x = 0 → zW G k D Q tgt L st lay C nx b) (wf : ¬ (x = 0) → zW G k D Q pc' L st lay C nx b) : zW G k D Q pc L (zI x :: st) lay C nx b := by
  have h : zin x ∧ zin 0 := ⟨h, by decide⟩
  refine zW.br (P := x = 0) (fun hs => zok_t hs) ?_ wt wf
  intro p e R s m args below meth c H locs cells slots mc ms ls α Qf cx hs wt wf
  rw [← hd.2] at wf
  exact lv_if_eq cx.1 cx.2.1 hd.1 ht (fun q => wt ((zeq h.1 h.2).mp q)) (fun q => wf (fun z => q ((zeq h.1 h.2).mpr z)))
theorem z_icmp_ne {x y : Int} {off : Int} {tgt : Nat} (hd : zD k pc (.if_icmp .ne off) 3 pc') (ht : zT pc off tgt) (h : zin x ∧ zin y) (wt : x ≠ y → zW G k D Q tgt L st lay C nx b) (wf : x = y → zW G k D Q pc' L st lay C nx b) : zW G k D Q pc L (zI y :: zI x :: st) lay C nx b := by
  refine zW.br (P := x ≠ y) (fun hs => zok_t (zok_t hs)) ?_ wt (fun q => wf (Decidable.of_not_not q))
  intro p e R s m args below meth c H locs cells slots mc ms ls α Qf cx hs wt wf
  rw [← hd.2] at wf
  exact lv_icmp_ne cx.1 cx.2.1 hd.1 ht (fun q => wt ((not_congr (zeq h.1 h.2)).mp q)) (fun q => wf (fun z => z ((zeq h.1 h.2).mp q)))
theorem z_if_ne {x : Int} {off : Int} {tgt : Nat} (hd : zD k pc (.ifCond .ne off) 3 pc') (ht : zT pc off tgt) (h : zin x) (wt : x ≠ 0 → zW G k D Q tgt L st lay C nx b) (wf : x = 0 → zW G k D Q pc' L st lay C nx b) : zW G k D Q pc L (zI x :: st) lay C nx b := by
  have h : zin x ∧ zin 0 := ⟨h, by decide⟩
  refine zW.br (P := x ≠ 0) (fun hs => zok_t hs) ?_ wt (fun q => wf (Decidable.of_not_not q))
  intro p e R s m args below meth c H locs cells slots mc ms ls α Qf cx hs wt wf
  rw [← hd.2] at wf
  exact lv_if_ne cx.1 cx.2.1 hd.1 ht (fun q => wt ((not_congr (zeq h.1 h.2)).mp q)) (fun q => wf (fun z => z ((zeq h.1 h.2).mp q)))
theorem z_icmp_lt {x y : Int} {off : Int} {tgt : Nat} (hd : zD k pc (.if_icmp .lt off) 3 pc') (ht : zT pc off tgt) (h : zin x ∧ zin y) (wt : x < y → zW G k D Q tgt L st lay C nx b) (wf : ¬ (x < y) → zW G k D Q pc' L st lay C nx b) : zW G k D Q pc L (zI y :: zI x :: st) lay C nx b := by
  refine zW.br (P := x < y) (fun hs => zok_t (zok_t hs)) ?_ wt wf
  intro p e R s m args below meth c H locs cells slots mc ms ls α Qf cx hs wt wf
  rw [← hd.2] at wf
  exact lv_icmp_lt cx.1 cx.2.1 hd.1 ht (fun q => wt ((zlt h.1 h.2).mp q)) (fun q => wf (fun z => q ((zlt h.1 h.2).mpr z)))
theorem z_if_lt {x : Int} {off : Int} {tgt : Nat} (hd : zD k pc (.ifCond .lt off) 3 pc') (ht : zT pc off tgt) (h : zin x) (wt : x < 0 → zW G k D Q tgt L st lay C nx b) (wf : ¬ (x < 0) → zW G k D Q pc' L st lay C nx b) : zW G k D Q pc L (zI x :: st) lay C nx b := by
  have h : zin x ∧ zin 0 := ⟨h, by decide⟩
  refine zW.br (P := x < 0) (fun hs => zok_t hs) ?_ wt wf
  intro p e R s m args below meth c H locs cells slots mc ms ls α Qf cx hs wt wf
  rw [← hd.2] at wf
  exact lv_if_lt cx.1 cx.2.1 hd.1 ht (fun q => wt ((zlt h.1 h.2).mp q)) (fun q => wf (fun z => q ((zlt h.1 h.2).mpr z)))
theorem z_icmp_ge {x y : Int} {off : Int} {tgt : Nat} (hd : zD k pc (.if_icmp .ge off) 3 pc') (ht : zT pc off tgt) (h : zin x ∧ zin y) (wt : y ≤ x → zW G k D Q tgt L st lay C nx b) (wf : ¬ (y ≤ x) → zW G k D Q pc' L st lay C nx b) : zW G k D Q pc L (zI y :: zI x :: st) lay C nx b := by
  refine zW.br (P := y ≤ x) (fun hs => zok_t (zok_t hs)) ?_ wt wf
  intro p e R s m args below meth c H locs cells slots mc ms ls α Qf cx hs wt wf
  rw [← hd.2] at wf
  exact lv_icmp_ge cx.1 cx.2.1 hd.1 ht (fun q => wt ((zle h.2 h.1).mp q)) (fun q => wf (fun z => q ((zle h.2 h.1).mpr z)))
theorem z_if_ge {x : Int} {off : Int} {tgt : Nat} (hd : zD k pc (.ifCond .ge off) 3 pc') (ht : zT pc off tgt) (h : zin x) (wt : 0 ≤ x → zW G k D Q tgt L st lay C nx b) (wf : ¬ (0 ≤ x) → zW G k D Q pc' L st lay C nx b) : zW G k D Q pc L (zI x :: st) lay C nx b := by
  have h : zin x ∧ zin 0 := ⟨h, by decide⟩
  refine zW.br (P := 0 ≤ x) (fun hs => zok_t hs) ?_ wt wf
  intro p e R s m args below meth c H locs cells slots mc ms ls α Qf cx hs wt wf
  rw [← hd.2] at wf
  exact lv_if_ge cx.1 cx.2.1 hd.1 ht (fun q => wt ((zle h.2 h.1).mp q)) (fun q => wf (fun z => q ((zle h.2 h.1).mpr z)))
theorem z_icmp_gt {x y : Int} {off : Int} {tgt : Nat} (hd : zD k pc (.if_icmp .gt off) 3 pc') (ht : zT pc off tgt) (h : zin x ∧ zin y) (wt : y < x → zW G k D Q tgt L st lay C nx b) (wf : ¬ (y < x) → zW G k D Q pc' L st lay C nx b) : zW G k D Q pc L (zI y :: zI x :: st) lay C nx b := by
  refine zW.br (P := y < x) (fun hs => zok_t (zok_t hs)) ?_ wt wf
  intro p e R s m args below meth c H locs cells slots mc ms ls α Qf cx hs wt wf
  rw [← hd.2] at wf
  exact lv_icmp_gt cx.1 cx.2.1 hd.1 ht (fun q => wt ((zlt h.2 h.1).mp q)) (fun q => wf (fun z => q ((zlt h.2 h.1).mpr z)))
theorem z_if_gt {x : Int} {off : Int} {tgt : Nat} (hd : zD k pc (.ifCond .gt off) 3 pc') (ht : zT pc off tgt) (h : zin x) (wt : 0 < x → zW G k D Q tgt L st lay C nx b) (wf : ¬ (0 < x) → zW G k D Q pc' L st lay C nx b) : zW G k D Q pc L (zI x :: st) lay C nx b := by
  have h : zin x ∧ zin 0 := ⟨h, by decide⟩
  refine zW.br (P := 0 < x) (fun hs => zok_t hs) ?_ wt wf
  intro p e R s m args below meth c H locs cells slots mc ms ls α Qf cx hs wt wf
  rw [← hd.2] at wf
  exact lv_if_gt cx.1 cx.2.1 hd.1 ht (fun q => wt ((zlt h.2 h.1).mp q)) (fun q => wf (fun z => q ((zlt h.2 h.1).mpr z)))
theorem z_icmp_le {x y : Int} {off : Int} {tgt : Nat} (hd : zD k pc (.if_icmp .le off) 3 pc') (ht : zT pc off tgt) (h : zin x ∧ zin y) (wt : x ≤ y → zW G k D Q tgt L st lay C nx b) (wf : ¬ (x ≤ y) → zW G k D Q pc' L st lay C nx b) : zW G k D Q pc L (zI y :: zI x :: st) lay C nx b := by
  refine zW.br (P := x ≤ y) (fun hs => zok_t (zok_t hs)) ?_ wt wf
  intro p e R s m args below meth c H locs cells slots mc ms ls α Qf cx hs wt wf
  rw [← hd.2] at wf
  exact lv_icmp_le cx.1 cx.2.1 hd.1 ht (fun q => wt ((zle h.1 h.2).mp q)) (fun q => wf (fun z => q ((zle h.1 h.2).mpr z)))
theorem z_if_le {x : Int} {off : Int} {tgt : Nat} (hd : zD k pc (.ifCond .le off) 3 pc') (ht : zT pc off tgt) (h : zin x) (wt : x ≤ 0 → zW G k D Q tgt L st lay C nx b) (wf : ¬ (x ≤ 0) → zW G k D Q pc' L st lay C nx b) : zW G k D Q pc L (zI x :: st) lay C nx b := by
  have h : zin x ∧ zin 0 := ⟨h, by decide⟩
  refine zW.br (P := x ≤ 0) (fun hs => zok_t hs) ?_ wt wf
  intro p e R s m args below meth c H locs cells slots mc ms ls α Qf cx hs wt wf
  rw [← hd.2] at wf
  exact lv_if_le cx.1 cx.2.1 hd.1 ht (fun q => wt ((zle h.1 h.2).mp q)) (fun q => wf (fun z => q ((zle h.1 h.2).mpr z)))
theorem z_icmp_ne_rf {x : Int} {off : Int} {tgt : Nat} (hd : zD k pc (.if_icmp .ne off) 3 pc') (ht : zT pc off tgt) (wf : zW G k D Q pc' L st lay C nx b) : zW G k D Q pc L (zI x :: zI x :: st) lay C nx b := by
  refine zW.go (fun _ hs => zok_t (zok_t hs)) ?_ wf
  intro p e R s m args below meth c H locs cells slots mc ms ls α Qf cx hs hl w
  rw [← hd.2] at w
  exact lv_icmp_ne cx.1 cx.2.1 hd.1 ht (fun q => absurd rfl q) (fun _ => w)
theorem z_icmp_eq_rf {x : Int} {off : Int} {tgt : Nat} (hd : zD k pc (.if_icmp .eq off) 3 pc') (ht : zT pc off tgt) (wt : zW G k D Q tgt L st lay C nx b) : zW G k D Q pc L (zI x :: zI x :: st) lay C nx b := by
  refine zW.go (fun _ hs => zok_t (zok_t hs)) ?_ wt
  intro p e R s m args below meth c H locs cells slots mc ms ls α Qf cx hs hl w
  exact lv_icmp_eq cx.1 cx.2.1 hd.1 ht (fun _ => w) (fun q => absurd rfl q)
theorem z_ifnonnull {a : Int} {off : Int} {tgt : Nat} (hd : zD k pc (.ifnonnull off) 3 pc') (ht : zT pc off tgt) (wt : a ≠ -1 → zW G k D Q tgt L st lay C nx b) (wf : a = -1 → zW G k D Q pc' L st lay C nx b) : zW G k D Q pc L (zP a :: st) lay C nx b := by
  refine zW.br (P := a ≠ -1) (fun hs => zok_t hs) ?_ wt (fun q => wf (Decidable.of_not_not q))
  intro p e R s m args below meth c H locs cells slots mc ms ls α Qf cx hs wt wf
  rw [← hd.2] at wf
  by_cases h : a = -1
  · subst h
    exact lv_ifnonnullN cx.1 cx.2.1 hd.1 (wf (fun q => q rfl))
  · rw [List.map_cons, zc_P α h]
    exact lv_ifnonnull cx.1 cx.2.1 hd.1 ht (wt h)
theorem z_ifnull {a : Int} {off : Int} {tgt : Nat} (hd : zD k pc (.ifnull off) 3 pc') (ht : zT pc off tgt) (wt : a = -1 → zW G k D Q tgt L st lay C nx b) (wf : a ≠ -1 → zW G k D Q pc' L st lay C nx b) : zW G k D Q pc L (zP a :: st) lay C nx b := by
  refine zW.br (P := a = -1) (fun hs => zok_t hs) ?_ wt wf
  intro p e R s m args below meth c H locs cells slots mc ms ls α Qf cx hs wt wf
  rw [← hd.2] at wf
  by_cases h : a = -1
  · subst h
    exact lv_ifnullN cx.1 cx.2.1 hd.1 ht (wt rfl)
  · rw [List.map_cons, zc_P α h]
    exact lv_ifnull cx.1 cx.2.1 hd.1 (wf h)
/-- the sign of a comparison of longs -/
def zcmp (x y : Int) : Int := if x < y then -1 else if x = y then 0 else 1
theorem z_lcmp {x y : Int} (hd : zD k pc .lcmp 1 pc') (h : zin8 x ∧ zin8 y) (w : zW G k D Q pc' L (zI (zcmp x y) :: st) lay C nx b) : zW G k D Q pc L (zJ y :: zJ x :: st) lay C nx b := by
  refine zW.go (fun hL hs => zok_c zok_I (zok_t (zok_t hs))) ?_ w
  intro p e R s m args below meth c H locs cells slots mc ms ls α Qf cx hs hl w
  rw [← hd.2] at w
  refine W.lcmp cx.1 cx.2.1 hd.1 ?_
  have e9 : lg_cmp (Int64.ofInt x) (Int64.ofInt y) = Int32.ofInt (zcmp x y) := by
    unfold lg_cmp zcmp
    simp only [gt_iff_lt, zlt8 h.2 h.1, zeq8 h.1 h.2]
    by_cases h1 : y < x
    · rw [if_pos h1, if_neg (by omega), if_neg (by omega)]; rfl
    · rw [if_neg h1]
      by_cases h2 : x = y
      · rw [if_pos h2, if_neg (by omega), if_pos h2]; rfl
      · rw [if_neg h2, if_pos (by omega)]; rfl
  show W _ _ _ _ _ _ _ _ _ _ _ _ _ _ _ (F0 m (pc + 1) ls (.int (lg_cmp (Int64.ofInt x) (Int64.ofInt y)) :: st.map (zc α)))
  rw [e9]
  exact w
theorem z_tsOut {dflt lo hi : Int} {offs : Array Int} {len tgt : Nat} {x : Int} (hd : zD k pc (.tableswitch dflt lo hi offs) len pc') (hx : zin x) (h : x < lo ∨ hi < x) (ht : zT pc dflt tgt) (w : zW G k D Q tgt L st lay C nx b) : zW G k D Q pc L (zI x :: st) lay C nx b := by
  refine zW.go (fun hL hs => zok_t hs) ?_ w
  intro p e R s m args below meth c H locs cells slots mc ms ls α Qf cx hs hl w
  exact lv_tableOut cx.1 cx.2.1 hd.1 (by rw [zto hx]; exact h) ht w
theorem z_tsIn {dflt lo hi off : Int} {offs : Array Int} {len tgt : Nat} {x : Int} (hd : zD k pc (.tableswitch dflt lo hi offs) len pc') (hx : zin x) (h : lo ≤ x ∧ x ≤ hi) (ho : offs[(x - lo).toNat]? = some off) (ht : zT pc off tgt) (w : zW G k D Q tgt L st lay C nx b) : zW G k D Q pc L (zI x :: st) lay C nx b := by
  refine zW.go (fun hL hs => zok_t hs) ?_ w
  intro p e R s m args below meth c H locs cells slots mc ms ls α Qf cx hs hl w
  exact lv_tableIn cx.1 cx.2.1 hd.1 (by rw [zto hx]; omega) (by rw [zto hx]; omega) (by rw [zto hx]; exact ho) ht w
theorem zg_istore {x : Int} {i : Nat} (hd : zD k pc (.istore i) 2 pc') (hp : ∀ w, i ≠ 0 → L[i - 1]? = some w → w.1 ≠ 1) (hi : i < L.length) (w : zW G k D Q pc' (L.set i (zI x)) st lay C nx b) : zW G k D Q pc L (zI x :: st) lay C nx b := by
  intro p e R s m args below meth c H locs cells slots mc ms ls α₀ lay₀ α cx he hw hL hs hz hlo hc hm hl
  refine lv_istore cx.1 cx.2.1 hd.1 hl.has (by rw [← hl.2.2.1]; exact hi) rfl (fun ls' hl' => ?_)
  rw [hd.2]
  exact w p e R s m args below meth c H locs cells slots mc ms ls' α₀ lay₀ α cx he hw (zok_set zok_I hL) (zok_t hs) hz hlo hc hm (hl.set hp hl')
theorem zg_istore_n {x : Int} {i : Nat} {n : Fin 4} (hd : zD k pc (.istore_n n) 1 pc') (hn : (n : Nat) = i) (hp : ∀ w, i ≠ 0 → L[i - 1]? = some w → w.1 ≠ 1) (hi : i < L.length) (w : zW G k D Q pc' (L.set i (zI x)) st lay C nx b) : zW G k D Q pc L (zI x :: st) lay C nx b := by
  intro p e R s m args below meth c H locs cells slots mc ms ls α₀ lay₀ α cx he hw hL hs hz hlo hc hm hl
  refine lv_istore_n cx.1 cx.2.1 hd.1 hn hl.has (by rw [← hl.2.2.1]; exact hi) rfl (fun ls' hl' => ?_)
  rw [hd.2]
  exact w p e R s m args below meth c H locs cells slots mc ms ls' α₀ lay₀ α cx he hw (zok_set zok_I hL) (zok_t hs) hz hlo hc hm (hl.set hp hl')
theorem zg_lstore {x : Int} {i : Nat} (hd : zD k pc (.lstore i) 2 pc') (hp : ∀ w, i ≠ 0 → L[i - 1]? = some w → w.1 ≠ 1) (hi : i + 1 < L.length) (w : zW G k D Q pc' ((L.set i (zJ x)).set (i + 1) zU) st lay C nx b) : zW G k D Q pc L (zJ x :: st) lay C nx b := by
  intro p e R s m args below meth c H locs cells slots mc ms ls α₀ lay₀ α cx he hw hL hs hz hlo hc hm hl
  refine lv_lstore cx.1 cx.2.1 hd.1 hl.has (by rw [← hl.2.2.1]; exact hi) rfl (fun ls' hl' => ?_)
  rw [hd.2]
  exact w p e R s m args below meth c H locs cells slots mc ms ls' α₀ lay₀ α cx he hw (zok_set zok_U (zok_set zok_J hL)) (zok_t hs) hz hlo hc hm (hl.set2 hp hl')
theorem zg_lstore_n {x : Int} {i : Nat} {n : Fin 4} (hd : zD k pc (.lstore_n n) 1 pc') (hn : (n : Nat) = i) (hp : ∀ w, i ≠ 0 → L[i - 1]? = some w → w.1 ≠ 1) (hi : i + 1 < L.length) (w : zW G k D Q pc' ((L.set i (zJ x)).set (i + 1) zU) st lay C nx b) : zW G k D Q pc L (zJ x :: st) lay C nx b := by
  intro p e R s m args below meth c H locs cells slots mc ms ls α₀ lay₀ α cx he hw hL hs hz hlo hc hm hl
  refine lv_lstore_n cx.1 cx.2.1 hd.1 hn hl.has (by rw [← hl.2.2.1]; exact hi) rfl (fun ls' hl' => ?_)
  rw [hd.2]
  exact w p e R s m args below meth c H locs cells slots mc ms ls' α₀ lay₀ α cx he hw (zok_set zok_U (zok_set zok_J hL)) (zok_t hs) hz hlo hc hm (hl.set2 hp hl')
theorem zg_astore {a : Int} {i : Nat} (hd : zD k pc (.astore i) 2 pc') (h1 : a ≠ -1) (hp : ∀ w, i ≠ 0 → L[i - 1]? = some w → w.1 ≠ 1) (hi : i < L.length) (w : zW G k D Q pc' (L.set i (zP a)) st lay C nx b) : zW G k D Q pc L (zP a :: st) lay C nx b := by
  intro p e R s m args below meth c H locs cells slots mc ms ls α₀ lay₀ α cx he hw hL hs hz hlo hc hm hl
  rw [List.map_cons, zc_P α h1]
  refine lv_astore cx.1 cx.2.1 hd.1 hl.has (by rw [← hl.2.2.1]; exact hi) rfl (fun ls' hl' => ?_)
  rw [hd.2]
  refine w p e R s m args below meth c H locs cells slots mc ms ls' α₀ lay₀ α cx he hw (zok_set (zok_h hs) hL) (zok_t hs) hz hlo hc hm (hl.set hp ?_)
  rw [zc_P α h1]
  exact hl'
theorem zg_astoreX {a : Int} {i : Nat} (hd : zD k pc (.astore i) 2 pc') (hp : ∀ w, i ≠ 0 → L[i - 1]? = some w → w.1 ≠ 1) (hi : i < L.length) (w : zW G k D Q pc' (L.set i (zX a)) st lay C nx b) : zW G k D Q pc L (zX a :: st) lay C nx b := by
  intro p e R s m args below meth c H locs cells slots mc ms ls α₀ lay₀ α cx he hw hL hs hz hlo hc hm hl
  rw [List.map_cons, zc_X]
  refine lv_astore cx.1 cx.2.1 hd.1 hl.has (by rw [← hl.2.2.1]; exact hi) rfl (fun ls' hl' => ?_)
  rw [hd.2]
  refine w p e R s m args below meth c H locs cells slots mc ms ls' α₀ lay₀ α cx he hw (zok_set (zok_h hs) hL) (zok_t hs) hz hlo hc hm (hl.set hp ?_)
  rw [zc_X]
  exact hl'
theorem zg_astore_n {a : Int} {i : Nat} {n : Fin 4} (hd : zD k pc (.astore_n n) 1 pc') (hn : (n : Nat) = i) (h1 : a ≠ -1) (hp : ∀ w, i ≠ 0 → L[i - 1]? = some w → w.1 ≠ 1) (hi : i < L.length) (w : zW G k D Q pc' (L.set i (zP a)) st lay C nx b) : zW G k D Q pc L (zP a :: st) lay C nx b := by
  intro p e R s m args below meth c H locs cells slots mc ms ls α₀ lay₀ α cx he hw hL hs hz hlo hc hm hl
  rw [List.map_cons, zc_P α h1]
  refine lv_astore_n cx.1 cx.2.1 hd.1 hn hl.has (by rw [← hl.2.2.1]; exact hi) rfl (fun ls' hl' => ?_)
  rw [hd.2]
  refine w p e R s m args below meth c H locs cells slots mc ms ls' α₀ lay₀ α cx he hw (zok_set (zok_h hs) hL) (zok_t hs) hz hlo hc hm (hl.set hp ?_)
  rw [zc_P α h1]
  exact hl'
theorem zg_astoreX_n {a : Int} {i : Nat} {n : Fin 4} (hd : zD k pc (.astore_n n) 1 pc') (hn : (n : Nat) = i) (hp : ∀ w, i ≠ 0 → L[i - 1]? = some w → w.1 ≠ 1) (hi : i < L.length) (w : zW G k D Q pc' (L.set i (zX a)) st lay C nx b) : zW G k D Q pc L (zX a :: st) lay C nx b := by
  intro p e R s m args below meth c H locs cells slots mc ms ls α₀ lay₀ α cx he hw hL hs hz hlo hc hm hl
  rw [List.map_cons, zc_X]
  refine lv_astore_n cx.1 cx.2.1 hd.1 hn hl.has (by rw [← hl.2.2.1]; exact hi) rfl (fun ls' hl' => ?_)
  rw [hd.2]
  refine w p e R s m args below meth c H locs cells slots mc ms ls' α₀ lay₀ α cx he hw (zok_set (zok_h hs) hL) (zok_t hs) hz hlo hc hm (hl.set hp ?_)
  rw [zc_X]
  exact hl'
theorem zg_iinc {x d : Int} {i : Nat} (hd : zD k pc (.iinc i d) 3 pc') (hp : ∀ w, i ≠ 0 → L[i - 1]? = some w → w.1 ≠ 1) (hi : L[i]? = some (zI x)) (w : zW G k D Q pc' (L.set i (zI (x + d))) st lay C nx b) : zW G k D Q pc L st lay C nx b := by
  intro p e R s m args below meth c H locs cells slots mc ms ls α₀ lay₀ α cx he hw hL hs hz hlo hc hm hl
  have hil : i < L.length := (List.getElem?_eq_some_iff.mp hi).1
  have hm9 : (i, Value.int (Int32.ofInt x)) ∈ zLv α L := zLv_mem.mpr ⟨zI x, hi, Nat.ne_of_beq_eq_false rfl, rfl⟩
  obtain ⟨j, hj⟩ := List.getElem?_of_mem hm9
  refine lv_iinc (v := Int32.ofInt (x + d)) cx.1 cx.2.1 hd.1 hl.has hj (Int32.ofInt_add x d).symm (by rw [← hl.2.2.1]; exact hil) rfl (fun ls' hl' => ?_)
  rw [hd.2]
  exact w p e R s m args below meth c H locs cells slots mc ms ls' α₀ lay₀ α cx he hw (zok_set zok_I hL) hs hz hlo hc hm (hl.set hp hl')
end ZROW
