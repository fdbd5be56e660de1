theorem z_nestT : ∀ w ∈ zNest, w.onTables = true := by decide +kernel
theorem z_nestW {s U : State} (hW : s.WarmedH U.vm) : ∀ w ∈ zNest, va_Nw w s → va_Nw w U := by
  unfold zNest
  intro w hw
  simp only [List.mem_cons, List.not_mem_nil, or_false] at hw
  rcases hw with rfl | rfl | rfl | rfl | rfl | rfl | rfl | rfl | rfl | rfl | rfl | rfl | rfl | rfl | rfl
  all_goals first | exact va_Nw.warmM hW | exact va_Nw.warmF hW | exact va_Nw.warmD hW | exact va_Nw.warmC hW
/-! Methods' contracts and calls. -/
theorem zKn.same {G : zG} {u U : State} (h : U.vm = u.vm) (hk : zKn G u) : zKn G U := by
  have hA : u.vm.Alike U.vm := by rw [h]; exact Vm.Alike.refl _
  obtain ⟨h1, h2, h3, h4, h5, h6, h7, h8, h9, h10⟩ := hk
  exact ⟨h1.moved hA, fun w hw => va_Nw.same (z_nestT w hw) h.symm (h2 w hw), h3.moved hA, h4, fun n q hq => ⟨vk_R.same h (h5 n q hq).1, vk_S.moved hA (h5 n q hq).2⟩, h6.moved hA, h7.moved hA, ⟨fun q hq => (h8.1 q hq).moved hA, h8.2.moved hA⟩, va_Z.moved hA h9, va_Zq.moved hA h10⟩
theorem zKn.warm {G : zG} {s U : State} (hW : s.WarmedH U.vm) (hk : zKn G s) : zKn G U := by
  have hA := hW.alike
  obtain ⟨h1, h2, h3, h4, h5, h6, h7, h8, h9, h10⟩ := hk
  exact ⟨h1.moved hA, fun w hw => z_nestW hW w hw (h2 w hw), h3.moved hA, h4, fun n q hq => ⟨vk_R.warm hW (h5 n q hq).1, vk_S.moved hA (h5 n q hq).2⟩, h6.moved hA, h7.moved hA, ⟨fun q hq => (h8.1 q hq).moved hA, h8.2.moved hA⟩, va_Z.moved hA h9, va_Zq.moved hA h10⟩
def zPc (G : zG) (av : List zAV) (lay : zLay) (C : zMem) (nx : Int) (α : Int → Nat) : Array Value → State → Prop := fun a U => a = (av.map (zc α)).toArray ∧ (∀ v ∈ av, zok lay v) ∧ zWR G α lay C nx U.heap ∧ zKn G U ∧ G.1.stackTraces = false
def zMM (G : zG) (D : Nat) (k : zK) (av : List zAV) (lay : zLay) (C : zMem) (nx : Int) (b : Nat × Nat) (Q : zQ) : Prop :=
  ∀ (D' : Nat) (α : Int → Nat), D ≤ D' → vx_Met G.1 k.1 (zws k) { frames := D', cells := b.1, slots := b.2, locals := 64 * D' } (zPc G av lay C nx α) (zQc G Q α lay) (zXc G Q α lay) b.1 b.2 (fun q => G.2.1.size ≤ q)
/-- an end that is told exactly -/
def zR (r : Option zAV) (lay : zLay) (C : zMem) (nx : Int) : zQ := fun o l c n => o = .inl r ∧ l = lay ∧ c = C ∧ n = nx
/-- a throw, nothing changed -/
def zT_ (E : String) (lay : zLay) (C : zMem) (nx : Int) : zQ := fun o l c n => o = .inr E ∧ l = lay ∧ c = C ∧ n = nx
theorem zTg_good : ∀ w ∈ zTg, goodWord w = true := fun w hw => (List.mem_filter.mp hw).2
theorem zPc.blind {G : zG} {av : List zAV} {lay : zLay} {C : zMem} {nx : Int} {α : Int → Nat} : FrameBlind (zPc G av lay C nx α) := fun a U g mk q => ⟨q.1, q.2.1, q.2.2.1, zKn.same (u := U) (U := U.calling g mk a) rfl q.2.2.2.1, q.2.2.2.2⟩
/-- what a program decides of a method: plain, its code among the words, n parameters -/
def zGood (k : zK) (n : Nat) : Prop := plainName k.1.cls = true ∧ zcode k ∈ zTg ∧ (k.1.cls ≠ "java/lang/invoke/MethodHandle" ∧ k.1.cls ≠ "java/lang/invoke/VarHandle" ∧ (parseMethodDescriptor k.1.desc).map (fun d => d.parameters.length) = some n) ∧ k.2.2.1 ≤ 40 ∧ Cond.initialized k.1.cls ∈ zTg
theorem zws_in {k : zK} {n : Nat} (h : zGood k n) : GoodIn zTg (zws k) := fun w hw => (List.mem_cons.mp hw).elim (fun e => by rw [e]; exact ⟨h.2.1, good_of_word (zTg_good _ h.2.1)⟩) (fun h => ⟨h, good_of_word (zTg_good _ h)⟩)
theorem zlv_args {α : Int → Nat} : ∀ (av : List zAV) (i : Nat), (∀ v ∈ av, v.1 ≠ 1) → ∀ (j : Nat) (v : zAV), av[j]? = some v → (i + j, zc α v) ∈ lv_args i (av.map (zc α)) := by
  intro av
  induction av with
  | nil => intro i _ j v h; simp at h
  | cons a av ih =>
    intro i ha j v h
    have h1 : (zc α a).category = 1 := zc_cat (ha a List.mem_cons_self)
    simp only [List.map_cons, lv_args]
    cases j with
    | zero =>
      simp only [List.getElem?_cons_zero] at h
      cases Option.some.inj h
      exact List.mem_cons_self
    | succ j =>
      rw [List.getElem?_cons_succ] at h
      refine List.mem_cons_of_mem _ ?_
      rw [if_neg (by rw [h1]; decide)]
      have := ih (i + 1) (fun v hv => ha v (List.mem_cons_of_mem _ hv)) j v h
      rwa [show i + 1 + j = i + (j + 1) by omega] at this
theorem zlg_len {α : Int → Nat} : ∀ (av : List zAV), (∀ v ∈ av, v.1 ≠ 1) → (lg_sl (av.map (zc α))).length = av.length := by
  intro av
  induction av with
  | nil => intro _; rfl
  | cons a av ih =>
    intro ha
    have h1 : (zc α a).category = 1 := zc_cat (ha a List.mem_cons_self)
    have e : lg_sl ((a :: av).map (zc α)) = Slot.val (zc α a) :: lg_sl (av.map (zc α)) := by
      simp only [lg_sl, List.map_cons, List.flatMap_cons]
      rw [if_neg (by rw [h1]; decide)]
      rfl
    rw [e, List.length_cons, List.length_cons, ih (fun v hv => ha v (List.mem_cons_of_mem _ hv))]
theorem zL.entry {α : Int → Nat} {av : List zAV} {nL : Nat} (h1 : ∀ v ∈ av, v.1 ≠ 1) (hn : av.length ≤ nL) : zL α (lg_sl (av.map (zc α)) ++ List.replicate (nL - (lg_sl (av.map (zc α))).length) Slot.unset).toArray nL (av ++ List.replicate (nL - av.length) zU) := by
  have h := lv_entry (av.map (zc α)) (n := nL) (by rw [zlg_len av h1]; exact hn)
  refine ⟨h.1, h.2.1, by simp; omega, fun i v hi hv => ?_⟩
  by_cases hl : i < av.length
  · rw [List.getElem?_append_left hl] at hi
    have := h.2.2 _ (zlv_args av 0 h1 i v hi)
    rwa [Nat.zero_add] at this
  · rw [List.getElem?_append_right (by omega)] at hi
    have := List.mem_of_getElem? hi
    rw [List.mem_replicate] at this
    rw [this.2] at hv
    exact absurd rfl hv
section ZMET
variable {G : zG} {k : zK} {D : Nat} {Q : zQ} {lay : zLay} {C : zMem} {nx : Int} {b : Nat × Nat} {av : List zAV}
theorem z_body {D' : Nat} {α : Int → Nat} {p : Program} {e : Env} {s : State} {m : MethodId} {args : Array Value} {below : List Frame} {meth : Method} {c : Code} {s₁ : State} (hg1 : plainName k.1.cls = true) (ha : ∀ v ∈ av, v.1 ≠ 1) (hn : av.length ≤ k.2.2.1) (hD : D ≤ D')
    (B : BodyLoose p G.1 k.1 (headSpec (zws k) { frames := D', cells := b.1, slots := b.2, locals := 64 * D' }) k.2.1 k.2.2.1 k.2.2.2.1 e s m args below meth c s₁) (hml : c.maxLocals = k.2.2.1) (hx : c.exceptionTable.toList = tableOf k.2.2.2.2) (hP : zPc G av lay C nx α args s)
    (w : zW G k D Q 0 (av ++ List.replicate (k.2.2.1 - av.length) zU) [] lay C nx b) :
    W p G.1 e (headSpec (zws k) { frames := D', cells := b.1, slots := b.2, locals := 64 * D' }).room s m args below meth c s.heap [] 0 0 (vx_MQ below (zQc G Q α lay) (zXc G Q α lay) args s b.1 b.2 (fun q => G.2.1.size ≤ q)) (entryFrame m args k.2.2.1) := by
  obtain ⟨rfl, p2, p3, p4, p5⟩ := hP
  have hts := atoms_spec (ws := zws k) B.pre
  rw [lg_entry_eq]
  have hcx : zCx G k p e (headSpec (zws k) { frames := D', cells := b.1, slots := b.2, locals := 64 * D' }).room s m (av.map (zc α)).toArray below meth c D b.1 b.2 :=
    ⟨B.exec, B.bytes, hml, B.returns, findClass_of_methodNamed B.named, fun w hw => hts w (List.mem_cons_of_mem _ hw), B.notSynchronized, (name_of_methodNamed B.named B.method).1, hx, p4, p3.1, p3.2.1, hD, Nat.mul_le_mul_left 64 hD, Nat.le_refl _, Nat.le_refl _, p5⟩
  have hL : ∀ v ∈ av ++ List.replicate (k.2.2.1 - av.length) zU, zok lay v := fun v hv => (List.mem_append.mp hv).elim (p2 v) (fun q => by rw [(List.mem_replicate.mp q).2]; exact zok_U)
  exact w p e _ s m _ below meth c s.heap [] 0 0 b.1 b.2 _ α lay α hcx (zExt.rf α lay) p3 hL (fun v hv => by cases hv) (Nat.le_refl _) (fun q hq => by cases hq) (by omega) (by omega) (zL.entry ha hn)
/-- a method without handlers -/
theorem z_met (hg1 : plainName k.1.cls = true) (hh : k.2.2.2.2 = []) (ha : ∀ v ∈ av, v.1 ≠ 1) (hn : av.length ≤ k.2.2.1) (w : zW G k D Q 0 (av ++ List.replicate (k.2.2.1 - av.length) zU) [] lay C nx b) : zMM G D k av lay C nx b Q := by
  intro D' α hD
  have e : zcode k = Cond.code k.1 k.2.1 k.2.2.1 k.2.2.2.1 := by unfold zcode; rw [if_pos hh]
  refine vx_ofW (cc := k.2.1) (maxL := k.2.2.1) (ret := k.2.2.2.1) (ws' := zTg) hg1 (by unfold zws; rw [e]) ?_
  intro p e s m args below meth c s₁ B hml hx hP
  refine z_body hg1 ha hn hD B hml ?_ hP w
  rw [hh]
  exact List.eq_nil_iff_forall_not_mem.mpr (fun x h => hx x h)
/-- a method with handlers -/
theorem z_metH (hg1 : plainName k.1.cls = true) (hh : k.2.2.2.2 ≠ []) (ha : ∀ v ∈ av, v.1 ≠ 1) (hn : av.length ≤ k.2.2.1) (w : zW G k D Q 0 (av ++ List.replicate (k.2.2.1 - av.length) zU) [] lay C nx b) : zMM G D k av lay C nx b Q := by
  intro D' α hD
  have e : zcode k = Cond.codeWith k.1 k.2.1 k.2.2.1 k.2.2.2.1 k.2.2.2.2 := by unfold zcode; rw [if_neg hh]
  refine vx_ofWH (cc := k.2.1) (maxL := k.2.2.1) (ret := k.2.2.2.1) (hh := k.2.2.2.2) (ws' := zTg) hg1 (by unfold zws; rw [e]) ?_
  intro p e9 s m args below meth c s₁ B hml hP
  refine z_body hg1 ha hn hD B hml ?_ hP w
  exact vx_table (x := k.1) B (atoms_spec (ws := zws k) B.pre _ (by unfold zws; rw [e]; exact List.mem_cons_self))
theorem zW.mono {pc : Nat} {L st : List zAV} {b' : Nat × Nat} (h : b'.1 ≤ b.1 ∧ b'.2 ≤ b.2) (w : zW G k D Q pc L st lay C nx b') : zW G k D Q pc L st lay C nx b := by
  intro p e R s m args below meth c H locs cells slots mc ms ls α₀ lay₀ α cx he hw hL hs hz hlo hc hm hl
  exact w p e R s m args below meth c H locs cells slots mc ms ls α₀ lay₀ α cx he hw hL hs hz hlo (by omega) (by omega) hl
theorem zW.monoD {pc D₁ : Nat} {L st : List zAV} (h : D₁ ≤ D) (w : zW G k D₁ Q pc L st lay C nx b) : zW G k D Q pc L st lay C nx b := by
  intro p e R s m args below meth c H locs cells slots mc ms ls α₀ lay₀ α cx he hw hL hs hz hlo hc hm hl
  obtain ⟨c1, c2, c3, c4, c5, c6, c7, c8, c9, c10, c11, c12, c13, c14, c15⟩ := cx
  exact w p e R s m args below meth c H locs cells slots mc ms ls α₀ lay₀ α ⟨c1, c2, c3, c4, c5, c6, c7, c8, c9, c10, c11, c12, by omega, by omega, c15⟩ he hw hL hs hz hlo hc hm hl
theorem zc_sum {α : Int → Nat} : ∀ l : List zAV, ((l.map (zc α)).map fun v => v.category).sum ≤ 2 * l.length := by
  intro l
  induction l with
  | nil => exact Nat.le_refl 0
  | cons v l ih =>
    have := zc_cat2 (α := α) (v := v)
    simp only [List.map_cons, List.sum_cons, List.length_cons]
    omega
/-- behind a call -/
theorem z_after {pc pc' : Nat} {L st : List zAV} {b' b'' : Nat × Nat} {Q' : zQ} {p : Program} {e : Env} {R : Room} {s : State} {m : MethodId} {args : Array Value} {below : List Frame} {meth : Method} {c : Code} {H : Heap} {locs : List Loc} {cells slots mc ms : Nat} {ls : Array Slot} {α₀ : Int → Nat} {lay₀ : zLay} {α : Int → Nat} {fr : List Value}
    (hpc : pc + 3 = pc') (cx : zCx G k p e R s m args below meth c D mc ms) (he : zExt α₀ lay₀ α lay) (hL : ∀ v ∈ L, zok lay v) (hs : ∀ v ∈ st, zok lay v) (hz : s.heap.size ≤ H.size) (hlo : ∀ q ∈ locs, G.2.1.size ≤ q.base) (hc : cells + (b'.1 + b''.1) ≤ mc) (hm : slots + (b'.2 + b''.2) ≤ ms) (hl : zL α ls k.2.2.1 L)
    (hr : vx_Run p G.1 e R s m args below meth c H locs cells slots b'.1 b'.2 (F0 m pc ls fr) (st.map (zc α)) (fun st₀ o t => zQc G Q' α lay #[] st₀ o t) (zXc G Q' α lay) (fun q => G.2.1.size ≤ q))
    (kk : ∀ (r : Option zAV) (lay' : zLay) (C' : zMem) (nx' : Int), Q' (.inl r) lay' C' nx' → zW G k D Q pc' L (r.toList ++ st) lay' C' nx' b'')
    (kx : ∀ (E : String) (lay' : zLay) (C' : zMem) (nx' : Int) (H' : Heap) (locs' : List Loc) (α' : Int → Nat) (q9 : Nat) (ce : Cell), Q' (.inr E) lay' C' nx' → zExt α lay α' lay' → zWR G α' lay' C' nx' H' → s.heap.size ≤ H'.size → (∀ q ∈ locs', G.2.1.size ≤ q.base) → H'[q9]? = some ce → ce.vm = .none → s.vm.findClass E = some ce.cls →
      vx_W p G.1 e R s m args below meth c H' locs' (cells + b'.1) (slots + b'.2) (zF G Q α₀ lay₀ below args s mc ms) (F0 m pc ls (st.map (zc α))) q9) :
    W p G.1 e R s m args below meth c H locs cells slots (zF G Q α₀ lay₀ below args s mc ms) (F0 m pc ls fr) := by
  intro T hT X
  rcases hr T hT X with ⟨v, st₀, t, T', L1, h0, X', hL1, e1, e2, hq, stp⟩ | ⟨q, st₀, t, T', L1, E, ce, h0, X', hL1, e1, e2, hq, hce, hcv, hcl, stp⟩
  · obtain ⟨r, lay', C', nx', α', hv, hQ, hWR, hE, hok, hsz⟩ := hq
    cases Outcome.returned.inj hv
    have kk1 := kk r lay' C' nx' hQ p e R s m args below meth c T'.heap (locs ++ L1) (cells + b'.1) (slots + b'.2) mc ms ls α₀ lay₀ α' cx (he.trans hE) (by rw [e1]; exact hWR) (fun v hv => (hL v hv).ext hE) (fun v hv => (List.mem_append.mp hv).elim (fun q => hok v (Option.mem_toList.mp q)) (fun q => (hs v q).ext hE)) (by rw [e1]; rw [h0] at hsz; omega)
      (fun q hq => (List.mem_append.mp hq).elim (hlo q) (hL1 q)) (by omega) (by omega) (hl.ext hE hL)
    obtain ⟨t2, a1, b1⟩ := kk1 T' rfl X'
    refine ⟨t2, stp t2 ?_, b1⟩
    have e9 : (r.map (zc α')).toList ++ st.map (zc α) = (r.toList ++ st).map (zc α') := by
      rw [List.map_append]
      congr 1
      · cases r <;> rfl
      · exact List.map_congr_left fun v hv => (zc.ext hE (hs v hv)).symm
    show Steps p.tables e below (T'.setTop { F0 m pc ls fr with pc := pc + 3, stack := (r.map (zc α')).toList ++ st.map (zc α) }) t2
    rw [e9, hpc]
    exact a1
  · obtain ⟨lay', C', nx', α', hQ, hWR, hE, hsz⟩ := hq
    obtain ⟨t2, a1, b1⟩ := kx E lay' C' nx' T'.heap (locs ++ L1) α' q ce hQ hE (by rw [e1]; exact hWR) (by rw [e1]; rw [h0] at hsz; omega) (fun q hq => (List.mem_append.mp hq).elim (hlo q) (hL1 q)) (by rw [e1]; exact hce) hcv hcl T' rfl X'
    exact ⟨t2, stp.trans a1, b1⟩
/-- a throw leaves a method that has no handlers -/
theorem z_leave {pc : Nat} {L st : List zAV} {b' : Nat × Nat} {p : Program} {e : Env} {R : Room} {s : State} {m : MethodId} {args : Array Value} {below : List Frame} {meth : Method} {c : Code} {cells slots mc ms : Nat} {ls : Array Slot} {α₀ : Int → Nat} {lay₀ : zLay} {α : Int → Nat}
    (hh : k.2.2.2.2 = []) (cx : zCx G k p e R s m args below meth c D mc ms) (he : zExt α₀ lay₀ α lay) (hc : cells + b'.1 ≤ mc) (hm : slots + b'.2 ≤ ms) {fr : List Value}
    (E : String) (lay' : zLay) (C' : zMem) (nx' : Int) (H' : Heap) (locs' : List Loc) (α' : Int → Nat) (q9 : Nat) (ce : Cell) (hQ : Q (.inr E) lay' C' nx') (hE : zExt α lay α' lay') (hWR : zWR G α' lay' C' nx' H') (hsz : s.heap.size ≤ H'.size) (hlo : ∀ q ∈ locs', G.2.1.size ≤ q.base) (hce : H'[q9]? = some ce) (hcv : ce.vm = .none) (hcl : s.vm.findClass E = some ce.cls) :
    vx_W p G.1 e R s m args below meth c H' locs' (cells + b'.1) (slots + b'.2) (zF G Q α₀ lay₀ below args s mc ms) (F0 m pc ls fr) q9 := by
  refine vx_out (E := E) (fun x hx => ?_) cx.2.2.2.2.2.2.1 hce hcv hcl (fun t ht hA => ⟨lay', C', nx', α', hQ, by rw [ht]; exact hWR, he.trans hE, by rw [ht]; exact hsz⟩) hlo hc hm
  rw [cx.2.2.2.2.2.2.2.2.1, hh] at hx
  exact absurd hx (by simp [tableOf])
/-- the words of a call: virtual, static, of a constructor, of a private thing of the nest's host -/
def zMl (own : String) (idx : Nat) (k' : zK) : Prop := Cond.methodLink own idx k'.1 ∈ zTg ∧ Cond.instanceMethod k'.1 ∈ zTg ∧ Cond.selects k'.1.cls k'.1 k'.1 ∈ zTg
def zSl (own : String) (idx : Nat) (k' : zK) : Prop := Cond.methodLink own idx k'.1 ∈ zTg ∧ Cond.static k'.1 ∈ zTg
def zIl (own : String) (idx : Nat) (k' : zK) : Prop := Cond.methodLink own idx k'.1 ∈ zTg ∧ Cond.instanceMethod k'.1 ∈ zTg ∧ k'.1.name = "<init>" ∧ k'.2.2.2.1 = none
def zNl (own : String) (idx : Nat) (k' : zK) : Prop := (∃ host : String, Cond.methodLinkNest own idx k'.1 host ∈ zNest) ∧ Cond.static k'.1 ∈ zTg
variable {pc pc' : Nat} {L st : List zAV} {k' : zK} {n idx D' ci : Nat} {b' b'' : Nat × Nat} {Q' : zQ}
theorem z_callV {o nn : Int} {r0 : vw_C} (hd : zD k pc (.invokevirtual idx) 3 pc') (hk : k.2.2.2.2 = []) (hg : zGood k' n) (hh : k'.2.2.2.2 = []) (hl9 : zMl k.1.cls idx k') (hM : zMM G D' k' (zP o :: av) lay C nx b' Q') (hD : D' + 1 ≤ D) (ho : lay o = (ci + 1, nn)) (hr0 : vwCl[ci]? = some r0) (hcl : r0.1 = k'.1.cls) (hn : av.length = n) (hrest : st.length ≤ 4)
    (kk : ∀ (r : Option zAV) (lay' : zLay) (C' : zMem) (nx' : Int), Q' (.inl r) lay' C' nx' → zW G k D Q pc' L (r.toList ++ st) lay' C' nx' b'') (kx : ∀ (E : String) (lay' : zLay) (C' : zMem) (nx' : Int), Q' (.inr E) lay' C' nx' → Q (.inr E) lay' C' nx') :
    zW G k D Q pc L (av.reverse ++ zP o :: st) lay C nx (b'.1 + b''.1, b'.2 + b''.2) := by
  intro p e R s m args below meth c H locs cells slots mc ms ls α₀ lay₀ α cx he hw hL hs hz hlo hc hm hl
  have hne : (lay o).1 ≠ 0 := by rw [ho]; exact Nat.succ_ne_zero ci
  have hm1 : o ≠ -1 := fun q => hne (by rw [q]; exact hw.2.2.2.1)
  have hci := z_ci hr0
  obtain ⟨-, -, g3, g4, -, -, g7, g8⟩ := hw.2.2.2.2.1 o hne (by rw [ho]; show ci + 1 ≤ 102; omega)
  obtain ⟨cell, q1, q2, q3, q4⟩ := zcell_ob g7 ho hr0
  have hts := cx.2.2.2.2.2.1
  have hK := cx.2.2.2.2.2.2.2.2.2.1
  obtain ⟨hS, hfc, -⟩ := hK.1.1 ci _ hr0
  have ec : zcode k' = Cond.code k'.1 k'.2.1 k'.2.2.1 k'.2.2.2.1 := by unfold zcode; rw [if_pos hh]
  have hok : ∀ v ∈ zP o :: av, zok lay v := fun v hv => (List.mem_cons.mp hv).elim (fun e => by rw [e]; exact zok_P hne) (fun h => hs v (List.mem_append_left _ (List.mem_reverse.mpr h)))
  have hmap : (av.reverse ++ zP o :: st).map (zc α) = (av.map (zc α)).reverse ++ .ref (α o) :: st.map (zc α) := by rw [List.map_append, List.map_reverse, List.map_cons, zc_P α hm1]
  have hR3 := cx.2.2.2.2.2.2.2.2.2.2.2.2.1
  have hR4 := cx.2.2.2.2.2.2.2.2.2.2.2.2.2.1
  have hR5 := cx.2.2.2.2.2.2.2.2.2.2.2.2.2.2.1
  have hR6 := cx.2.2.2.2.2.2.2.2.2.2.2.2.2.2.2.1
  have h40 := hg.2.2.2.1
  simp only at hc hm
  rw [hmap]
  refine z_after (b' := b') (b'' := b'') (Q' := Q') hd.2 cx he hL (fun v hv => hs v (List.mem_append_right _ (List.mem_cons_of_mem _ hv))) hz hlo hc hm hl ?_ kk ?_
  · refine vx_runV (As := av.map (zc α)) (rest := st.map (zc α)) (C := k'.1.cls) (n := n) ⟨cx.1, cx.2.1, cx.2.2.1, cx.2.2.2.2.1, hts⟩ (hM D' α (Nat.le_refl _)) (cwV (ws' := zTg) n hts ?_ (by unfold zws; rw [ec]) rfl rfl ⟨rfl, hg.2.2.1.1, hg.2.2.1.2.1, hg.2.2.1.2.2⟩ ⟨by show D' + 1 ≤ R.frames; omega, by show 8 + (k'.2.2.1 + 11) + 64 * D' ≤ R.locals; omega⟩) ⟨zPc.blind, ⟨cell, q1, by rw [q3]; rfl, by rw [q2, ← hcl]; exact hfc⟩, fun U hU hW => ⟨?_, hok, by rw [hU]; exact hw, hK.warm hW, cx.2.2.2.2.2.2.2.2.2.2.2.2.2.2.2.2⟩⟩ rfl (by rw [List.length_map]; exact hn) hl.1 rfl (by show 2 * 0 + _ ≤ 8; have := zc_sum (α := α) st; omega) hd.1 ⟨by omega, by omega⟩
    · intro w hw9
      unfold wsV at hw9
      rcases List.mem_append.mp hw9 with h | h
      · have hx : w ∈ zTg := by
          simp only [List.mem_cons, List.not_mem_nil, or_false] at h
          rcases h with rfl | rfl | rfl | rfl
          · exact hl9.1
          · exact hl9.2.1
          · exact hl9.2.2
          · exact hg.2.2.2.2
        exact ⟨hx, good_of_word (zTg_good _ hx)⟩
      · exact zws_in hg w h
    · rw [List.map_cons, zc_P α hm1]
  · intro E lay' C' nx' H' locs' α' q9 ce hq hE hWR hsz hlo' hce hcv hcl9
    exact z_leave (L := L) (st := st) hk cx he (by omega) (by omega) E lay' C' nx' H' locs' α' q9 ce (kx E lay' C' nx' hq) hE hWR hsz hlo' hce hcv hcl9
theorem z_callS (hd : zD k pc (.invokestatic idx) 3 pc') (hk : k.2.2.2.2 = []) (hg : zGood k' n) (hh : k'.2.2.2.2 = []) (hl9 : zSl k.1.cls idx k') (hM : zMM G D' k' av lay C nx b' Q') (hD : D' + 1 ≤ D) (hn : av.length = n) (hrest : st.length ≤ 4)
    (kk : ∀ (r : Option zAV) (lay' : zLay) (C' : zMem) (nx' : Int), Q' (.inl r) lay' C' nx' → zW G k D Q pc' L (r.toList ++ st) lay' C' nx' b'') (kx : ∀ (E : String) (lay' : zLay) (C' : zMem) (nx' : Int), Q' (.inr E) lay' C' nx' → Q (.inr E) lay' C' nx') :
    zW G k D Q pc L (av.reverse ++ st) lay C nx (b'.1 + b''.1, b'.2 + b''.2) := by
  intro p e R s m args below meth c H locs cells slots mc ms ls α₀ lay₀ α cx he hw hL hs hz hlo hc hm hl
  have hts := cx.2.2.2.2.2.1
  have hK := cx.2.2.2.2.2.2.2.2.2.1
  have ec : zcode k' = Cond.code k'.1 k'.2.1 k'.2.2.1 k'.2.2.2.1 := by unfold zcode; rw [if_pos hh]
  have hok : ∀ v ∈ av, zok lay v := fun v hv => hs v (List.mem_append_left _ (List.mem_reverse.mpr hv))
  have hmap : (av.reverse ++ st).map (zc α) = (av.map (zc α)).reverse ++ st.map (zc α) := by rw [List.map_append, List.map_reverse]
  have hR3 := cx.2.2.2.2.2.2.2.2.2.2.2.2.1
  have hR4 := cx.2.2.2.2.2.2.2.2.2.2.2.2.2.1
  have hR5 := cx.2.2.2.2.2.2.2.2.2.2.2.2.2.2.1
  have hR6 := cx.2.2.2.2.2.2.2.2.2.2.2.2.2.2.2.1
  have h40 := hg.2.2.2.1
  simp only at hc hm
  rw [hmap]
  refine z_after (b' := b') (b'' := b'') (Q' := Q') hd.2 cx he hL (fun v hv => hs v (List.mem_append_right _ hv)) hz hlo hc hm hl ?_ kk ?_
  · refine vx_runS (As := av.map (zc α)) (rest := st.map (zc α)) (n := n) ⟨cx.1, cx.2.1, cx.2.2.1, cx.2.2.2.2.1, hts⟩ (hM D' α (Nat.le_refl _)) (va_cwS (ws' := zTg) n hts ?_ (by unfold zws; rw [ec]) rfl rfl ⟨hg.2.2.1.1, hg.2.2.1.2.1, hg.2.2.1.2.2⟩ ⟨by show D' + 1 ≤ R.frames; omega, by show 8 + (k'.2.2.1 + 11) + 64 * D' ≤ R.locals; omega⟩) ⟨zPc.blind, fun U hU hW => ⟨rfl, hok, by rw [hU]; exact hw, hK.warm hW, cx.2.2.2.2.2.2.2.2.2.2.2.2.2.2.2.2⟩⟩ rfl (by rw [List.length_map]; exact hn) hl.1 rfl (by show 2 * 0 + _ ≤ 8; have := zc_sum (α := α) st; omega) hd.1 ⟨by omega, by omega⟩
    intro w hw9
    unfold va_wsS at hw9
    rcases List.mem_append.mp hw9 with h | h
    · have hx : w ∈ zTg := by
        simp only [List.mem_cons, List.not_mem_nil, or_false] at h
        rcases h with rfl | rfl | rfl
        · exact hl9.1
        · exact hl9.2
        · exact hg.2.2.2.2
      exact ⟨hx, good_of_word (zTg_good _ hx)⟩
    · exact zws_in hg w h
  · intro E lay' C' nx' H' locs' α' q9 ce hq hE hWR hsz hlo' hce hcv hcl9
    exact z_leave (L := L) (st := st) hk cx he (by omega) (by omega) E lay' C' nx' H' locs' α' q9 ce (kx E lay' C' nx' hq) hE hWR hsz hlo' hce hcv hcl9
theorem z_notX {α : Int → Nat} {ws : List Cond} {rm : Room} {Pc : Array Value → State → Prop} {free : Addr → Prop} {mc ms : Nat} {y : MethodName} (h : vx_Met G.1 y ws rm Pc (zQc G Q' α lay) (zXc G Q' α lay) mc ms free) (hx : ∀ (E : String) (lay' : zLay) (C' : zMem) (nx' : Int), ¬ Q' (.inr E) lay' C' nx') : Met G.1 y ws rm Pc (zQc G Q' α lay) mc ms free := by
  refine MetFree.mono h (fun a st hp => hp) (fun _ _ _ _ _ q => q) (fun a st o t _ hq => ?_)
  rcases hq with hq | ⟨q, -, E, ce, L9, hX, -⟩
  · exact hq
  · obtain ⟨lay', C', nx', α', hQ, -⟩ := hX
    exact absurd hQ (hx E lay' C' nx')
/-- a plain run seen as one that may throw -/
theorem z_runX {p : Program} {l : Launch} {e : Env} {R : Room} {s : State} {m : MethodId} {args : Array Value} {below : List Frame} {meth : Method} {c : Code} {H : Heap} {locs : List Loc} {cells slots mc ms : Nat} {g : JFrame} {rest : List Value} {Qa : State → Outcome → State → Prop} {XC : String → State → State → Prop} {free : Addr → Prop} (h : va_Run p l e R s m args below meth c H locs cells slots mc ms g rest Qa free) : vx_Run p l e R s m args below meth c H locs cells slots mc ms g rest Qa XC free := fun T hT X => Or.inl (h T hT X)
theorem z_callN (hd : zD k pc (.invokestatic idx) 3 pc') (hg : zGood k' n) (hh : k'.2.2.2.2 = []) (hl9 : zNl k.1.cls idx k') (hM : zMM G D' k' av lay C nx b' Q') (hD : D' + 1 ≤ D) (hn : av.length = n) (hrest : st.length ≤ 4)
    (kk : ∀ (r : Option zAV) (lay' : zLay) (C' : zMem) (nx' : Int), Q' (.inl r) lay' C' nx' → zW G k D Q pc' L (r.toList ++ st) lay' C' nx' b'') (kx : ∀ (E : String) (lay' : zLay) (C' : zMem) (nx' : Int), ¬ Q' (.inr E) lay' C' nx') :
    zW G k D Q pc L (av.reverse ++ st) lay C nx (b'.1 + b''.1, b'.2 + b''.2) := by
  intro p e R s m args below meth c H locs cells slots mc ms ls α₀ lay₀ α cx he hw hL hs hz hlo hc hm hl
  have hts := cx.2.2.2.2.2.1
  have hK := cx.2.2.2.2.2.2.2.2.2.1
  have ec : zcode k' = Cond.code k'.1 k'.2.1 k'.2.2.1 k'.2.2.2.1 := by unfold zcode; rw [if_pos hh]
  have hok : ∀ v ∈ av, zok lay v := fun v hv => hs v (List.mem_append_left _ (List.mem_reverse.mpr hv))
  have hmap : (av.reverse ++ st).map (zc α) = (av.map (zc α)).reverse ++ st.map (zc α) := by rw [List.map_append, List.map_reverse]
  have hR3 := cx.2.2.2.2.2.2.2.2.2.2.2.2.1
  have hR4 := cx.2.2.2.2.2.2.2.2.2.2.2.2.2.1
  have hR5 := cx.2.2.2.2.2.2.2.2.2.2.2.2.2.2.1
  have hR6 := cx.2.2.2.2.2.2.2.2.2.2.2.2.2.2.2.1
  have h40 := hg.2.2.2.1
  obtain ⟨⟨host, hh9⟩, hst9⟩ := hl9
  simp only at hc hm
  rw [hmap]
  refine z_after (b' := b') (b'' := b'') (Q' := Q') hd.2 cx he hL (fun v hv => hs v (List.mem_append_right _ hv)) hz hlo hc hm hl ?_ kk (fun E lay' C' nx' _ _ _ _ _ hq => absurd hq (kx E lay' C' nx'))
  refine z_runX (va_runSN (host := host) (As := av.map (zc α)) (rest := st.map (zc α)) (n := n) ⟨cx.1, cx.2.1, cx.2.2.1, cx.2.2.2.2.1, hts⟩ (z_notX (hM D' α (Nat.le_refl _)) kx) ⟨va_cnB (ws' := zTg) n hts (zws_in hg) (by unfold zws; rw [ec]) rfl rfl (hK.2.1 _ hh9) (hts _ hg.2.2.2.2) ⟨hg.2.2.1.1, hg.2.2.1.2.1, hg.2.2.1.2.2⟩ ⟨by show D' + 1 ≤ R.frames; omega, by show 8 + (k'.2.2.1 + 11) + 64 * D' ≤ R.locals; omega⟩, hts _ hst9, trivial⟩ ⟨zPc.blind, fun U hU hW => ⟨rfl, hok, by rw [hU]; exact hw, hK.warm hW, cx.2.2.2.2.2.2.2.2.2.2.2.2.2.2.2.2⟩⟩ rfl (by rw [List.length_map]; exact hn) hl.1 rfl (by show 2 * 0 + _ ≤ 8; have := zc_sum (α := α) st; omega) hd.1 ⟨by omega, by omega⟩)
theorem z_callI {o : Int} (hd : zD k pc (.invokespecial idx) 3 pc') (hg : zGood k' n) (hh : k'.2.2.2.2 = []) (hl9 : zIl k.1.cls idx k') (hM : zMM G D' k' (zP o :: av) lay C nx b' Q') (hD : D' + 1 ≤ D) (ho : o ≠ -1) (hn : av.length = n) (hrest : st.length ≤ 4)
    (kk : ∀ (r : Option zAV) (lay' : zLay) (C' : zMem) (nx' : Int), Q' (.inl r) lay' C' nx' → zW G k D Q pc' L (r.toList ++ st) lay' C' nx' b'') (kx : ∀ (E : String) (lay' : zLay) (C' : zMem) (nx' : Int), ¬ Q' (.inr E) lay' C' nx') :
    zW G k D Q pc L (av.reverse ++ zP o :: st) lay C nx (b'.1 + b''.1, b'.2 + b''.2) := by
  intro p e R s m args below meth c H locs cells slots mc ms ls α₀ lay₀ α cx he hw hL hs hz hlo hc hm hl
  have hts := cx.2.2.2.2.2.1
  have hK := cx.2.2.2.2.2.2.2.2.2.1
  have hok : ∀ v ∈ zP o :: av, zok lay v := fun v hv => (List.mem_cons.mp hv).elim (fun e => by rw [e]; exact hs _ (List.mem_append_right _ List.mem_cons_self)) (fun h => hs v (List.mem_append_left _ (List.mem_reverse.mpr h)))
  have hmap : (av.reverse ++ zP o :: st).map (zc α) = (av.map (zc α)).reverse ++ .ref (α o) :: st.map (zc α) := by rw [List.map_append, List.map_reverse, List.map_cons, zc_P α ho]
  have hR3 := cx.2.2.2.2.2.2.2.2.2.2.2.2.1
  have hR4 := cx.2.2.2.2.2.2.2.2.2.2.2.2.2.1
  have hR5 := cx.2.2.2.2.2.2.2.2.2.2.2.2.2.2.1
  have hR6 := cx.2.2.2.2.2.2.2.2.2.2.2.2.2.2.2.1
  have h40 := hg.2.2.2.1
  have ec : zcode k' = Cond.code k'.1 k'.2.1 k'.2.2.1 none := by unfold zcode; rw [if_pos hh, hl9.2.2.2]
  simp only at hc hm
  rw [hmap]
  refine z_after (b' := b') (b'' := b'') (Q' := Q') hd.2 cx he hL (fun v hv => hs v (List.mem_append_right _ (List.mem_cons_of_mem _ hv))) hz hlo hc hm hl ?_ kk (fun E lay' C' nx' _ _ _ _ _ hq => absurd hq (kx E lay' C' nx'))
  refine z_runX (va_runI (As := av.map (zc α)) (rest := st.map (zc α)) (n := n) ⟨cx.1, cx.2.1, cx.2.2.1, cx.2.2.2.2.1, hts⟩ (z_notX (hM D' α (Nat.le_refl _)) kx) (cwI (ws' := zTg) n hts (zws_in hg) (by unfold zws; rw [ec]) rfl rfl (hts _ hg.2.2.2.2) (hts _ hl9.1) (hts _ hl9.2.1) hl9.2.2.1 ⟨hg.2.2.1.1, hg.2.2.1.2.1, hg.2.2.1.2.2⟩ ⟨by show D' + 1 ≤ R.frames; omega, by show 8 + (k'.2.2.1 + 11) + 64 * D' ≤ R.locals; omega⟩) ⟨zPc.blind, fun U hU hW => ⟨by rw [List.map_cons, zc_P α ho], hok, by rw [hU]; exact hw, hK.warm hW, cx.2.2.2.2.2.2.2.2.2.2.2.2.2.2.2.2⟩⟩ rfl (by rw [List.length_map]; exact hn) hl.1 rfl (by show 2 * 0 + _ ≤ 8; have := zc_sum (α := α) st; omega) hd.1 ⟨by omega, by omega⟩)
theorem z_zreturn {x : Int} (hd : zD k pc .ireturn 1 pc') (hr : k.2.2.2.1 = some .boolean) (hx : x = 0 ∨ x = 1) (h : Q (.inl (some (zI x))) lay C nx) : zW G k D Q pc L [zI x] lay C nx b := by
  intro p e R s m args below meth c H locs cells slots mc ms ls α₀ lay₀ α cx he hw hL hs hz hlo hc hm hl
  refine vx_ret (W.widen (k := mc) (n := ms) (by omega) (by omega) ?_)
  exact W.zret (v := Int32.ofInt x) (ty := .boolean) cx.1 cx.2.1 (by rw [cx.2.2.2.1, hr]) (by rcases hx with rfl | rfl <;> rfl) (fun t ht hW => ⟨some (zI x), lay, C, nx, α, rfl, h, by rw [ht]; exact hw, he, fun v q => by cases Option.some.inj q; exact zok_I, by rw [ht]; exact hz⟩) hlo hd.1 cx.2.2.2.2.2.2.1
end ZMET
