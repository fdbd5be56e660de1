/-! The class and the reference, side by side. -/
theorem zMM.imp {G : zG} {D : Nat} {k : zK} {av : List zAV} {lay : zLay} {C : zMem} {nx : Int} {b : Nat × Nat} {Q Q' : zQ} (h : zMM G D k av lay C nx b Q) (hi : ∀ o l c n, Q o l c n → Q' o l c n) : zMM G D k av lay C nx b Q' := by
  intro D' α hD
  refine MetFree.mono (h D' α hD) (fun a st hp => hp) (fun _ _ _ _ _ q => q) (fun a st o t _ hq => ?_)
  rcases hq with ⟨⟨r, l9, c9, n9, a9, h1, h2, h3⟩, hf⟩ | ⟨q, e, E, ce, L9, ⟨l9, c9, n9, a9, hX, h3⟩, h4⟩
  · exact Or.inl ⟨⟨r, l9, c9, n9, a9, h1, hi _ _ _ _ h2, h3⟩, hf⟩
  · exact Or.inr ⟨q, e, E, ce, L9, ⟨l9, c9, n9, a9, hi _ _ _ _ hX, h3⟩, h4⟩
def zIm (Q Q' : zQ) : Prop := ∀ o l c n, Q o l c n → Q' o l c n
theorem zIm.trans {A B C : zQ} (h : zIm A B) (h2 : zIm B C) : zIm A C := fun o l c n q => h2 o l c n (h o l c n q)
theorem layR_4 : ∀ q : Int, 0 ≤ q → q < 12 → (layR q).1 ≠ 4 := by
  intro q q0 q1
  have h : q = 0 ∨ q = 1 ∨ q = 2 ∨ q = 3 ∨ q = 4 ∨ q = 5 ∨ q = 6 ∨ q = 7 ∨ q = 8 ∨ q = 9 ∨ q = 10 ∨ q = 11 := by omega
  rcases h with h | h | h | h | h | h | h | h | h | h | h | h <;> subst h <;> decide
theorem LwA.far {lay : zLay} {x y p n : Int} (h : LwA lay x p n) (hR : RefL lay y) {i : Int} (hi : 0 ≤ i ∧ i < 6) : p + i < y ∨ y + 12 ≤ p + i := by
  refine Classical.byContradiction (fun z => ?_)
  have l0 := h.l0
  have l1 := h.l1
  have l2 := h.l2
  have l3 := h.l3
  have l4 := h.l4
  have l5 := h.l5
  have ly := hR.x
  by_cases e : y ≤ p
  · have h1 := hR.2 (p - y) (by omega) (by omega)
    rw [show y + (p - y) = p by omega, l0] at h1
    exact layR_4 (p - y) (by omega) (by omega) (by rw [← h1])
  · have hj : y = p + 1 ∨ y = p + 2 ∨ y = p + 3 ∨ y = p + 4 ∨ y = p + 5 := by omega
    rcases hj with e | e | e | e | e <;> rw [e] at ly
    · rw [l1] at ly; cases ly
    · rw [l2] at ly; cases ly
    · rw [l3] at ly; cases ly
    · rw [l4] at ly; cases ly
    · rw [l5] at ly; cases ly
theorem rC_out {y o : Int} {σ C : zMem} (h : o < y ∨ y + 12 ≤ o) : rC y σ C o = C o := by
  funext j
  show (if 0 ≤ o - y ∧ o - y < 12 then _ else C o j) = _
  rw [if_neg (by omega)]
theorem rC_in {y o : Int} {σ C C' : zMem} (h : y ≤ o ∧ o < y + 12) : rC y σ C o = rC y σ C' o := by
  funext j
  show (if 0 ≤ o - y ∧ o - y < 12 then _ else C o j) = (if 0 ≤ o - y ∧ o - y < 12 then _ else C' o j)
  rw [if_pos (by omega), if_pos (by omega)]
theorem CoL.rc {lay : zLay} {x y p : Int} {C σ : zMem} {M : Int → Int} (h : CoL lay x C p M) (hR : RefL lay y) : CoL lay x (rC y σ C) p M := by
  rcases h with h | ⟨h, n, h2⟩
  · exact Or.inl h
  · have f : ∀ i, 0 ≤ i → i < 6 → rC y σ C (p + i) = C (p + i) := fun i i0 i1 => rC_out (h2.A.far hR ⟨i0, i1⟩)
    have f0 := f 0 (by decide) (by decide)
    rw [Int.add_zero] at f0
    exact Or.inr ⟨h, n, h2.cg ⟨f0, f 1 (by decide) (by decide), f 2 (by decide) (by decide), f 3 (by decide) (by decide), f 4 (by decide) (by decide)⟩⟩
def qAct (σ : zMem) : Int → Int → Int := fun i j => if 0 ≤ j ∧ j < 426 then σ 4 (426 * i + j) else σ 1 j
def Rel (lay : zLay) (x : Int) (C s σ : zMem) : Prop := (CoR lay x C s (0 + 2) (σ 1)) ∧ (zOC (σ 1)) ∧ (s 0 6 = σ 0 3) ∧ (σ 0 3 = 0 ∨ σ 0 3 = 1) ∧ (σ 0 3 = 1 → CoR lay x C s 38 (σ 2) ∧ zOC (σ 2)) ∧ (PaR lay x C s (σ 0 6) (qAct σ)) ∧ (∀ i, 0 ≤ i → i < σ 0 6 → zOC (qAct σ i)) ∧ (s 1 = σ 5) ∧ (s 0 1 = σ 0 8) ∧ (s 0 2 = σ 0 12) ∧ (zTape σ) ∧ (zJs σ)
theorem Rel.now {lay : zLay} {x : Int} {C s σ : zMem} (h : Rel lay x C s σ) : CoR lay x C s (0 + 2) (σ 1) := h.1
theorem Rel.oc {lay : zLay} {x : Int} {C s σ : zMem} (h : Rel lay x C s σ) : zOC (σ 1) := h.2.1
theorem Rel.k0 {lay : zLay} {x : Int} {C s σ : zMem} (h : Rel lay x C s σ) : s 0 6 = σ 0 3 := h.2.2.1
theorem Rel.k1 {lay : zLay} {x : Int} {C s σ : zMem} (h : Rel lay x C s σ) : σ 0 3 = 0 ∨ σ 0 3 = 1 := h.2.2.2.1
theorem Rel.kp {lay : zLay} {x : Int} {C s σ : zMem} (h : Rel lay x C s σ) : σ 0 3 = 1 → CoR lay x C s 38 (σ 2) ∧ zOC (σ 2) := h.2.2.2.2.1
theorem Rel.pa {lay : zLay} {x : Int} {C s σ : zMem} (h : Rel lay x C s σ) : PaR lay x C s (σ 0 6) (qAct σ) := h.2.2.2.2.2.1
theorem Rel.po {lay : zLay} {x : Int} {C s σ : zMem} (h : Rel lay x C s σ) : ∀ i, 0 ≤ i → i < σ 0 6 → zOC (qAct σ i) := h.2.2.2.2.2.2.1
theorem Rel.t1 {lay : zLay} {x : Int} {C s σ : zMem} (h : Rel lay x C s σ) : s 1 = σ 5 := h.2.2.2.2.2.2.2.1
theorem Rel.t2 {lay : zLay} {x : Int} {C s σ : zMem} (h : Rel lay x C s σ) : s 0 1 = σ 0 8 := h.2.2.2.2.2.2.2.2.1
theorem Rel.t3 {lay : zLay} {x : Int} {C s σ : zMem} (h : Rel lay x C s σ) : s 0 2 = σ 0 12 := h.2.2.2.2.2.2.2.2.2.1
theorem Rel.tb {lay : zLay} {x : Int} {C s σ : zMem} (h : Rel lay x C s σ) : zTape σ := h.2.2.2.2.2.2.2.2.2.2.1
theorem Rel.js {lay : zLay} {x : Int} {C s σ : zMem} (h : Rel lay x C s σ) : zJs σ := h.2.2.2.2.2.2.2.2.2.2.2
def Wd (lay : zLay) (x y nx : Int) (C σ : zMem) : Prop := (TopL lay x) ∧ (RefL lay y) ∧ (x + 313 ≤ y) ∧ (y + 12 ≤ nx) ∧ (TxS lay C) ∧ (∀ o, y ≤ o → o < y + 12 → C o = rC y σ C o)
theorem Wd.T {lay : zLay} {x y nx : Int} {C σ : zMem} (h : Wd lay x y nx C σ) : TopL lay x := h.1
theorem Wd.R {lay : zLay} {x y nx : Int} {C σ : zMem} (h : Wd lay x y nx C σ) : RefL lay y := h.2.1
theorem Wd.d {lay : zLay} {x y nx : Int} {C σ : zMem} (h : Wd lay x y nx C σ) : x + 313 ≤ y := h.2.2.1
theorem Wd.n {lay : zLay} {x y nx : Int} {C σ : zMem} (h : Wd lay x y nx C σ) : y + 12 ≤ nx := h.2.2.2.1
theorem Wd.S {lay : zLay} {x y nx : Int} {C σ : zMem} (h : Wd lay x y nx C σ) : TxS lay C := h.2.2.2.2.1
theorem Wd.h {lay : zLay} {x y nx : Int} {C σ : zMem} (h : Wd lay x y nx C σ) : ∀ o, y ≤ o → o < y + 12 → C o = rC y σ C o := h.2.2.2.2.2
theorem Rel.rc {lay : zLay} {x y : Int} {C s σ τ : zMem} (h : Rel lay x C s σ) (hR : RefL lay y) : Rel lay x (rC y τ C) s σ :=
  ⟨⟨h.now.1, h.now.2.rc hR⟩, h.oc, h.k0, h.k1, fun z => ⟨⟨(h.kp z).1.1, (h.kp z).1.2.rc hR⟩, (h.kp z).2⟩, h.pa.C (fun p M q => q.rc hR), h.po, h.t1, h.t2, h.t3, h.tb, h.js⟩
theorem Wd.rc {lay : zLay} {x y nx : Int} {C σ τ : zMem} (h : Wd lay x y nx C σ) : Wd lay x y nx (rC y τ C) τ := by
  have hy := h.R.1
  refine ⟨h.T, h.R, h.d, h.n, fun t q hq => ?_, fun o o0 o1 => rC_in ⟨o0, o1⟩⟩
  obtain ⟨a, b, d⟩ := h.S t q hq
  exact ⟨a, b, fun i hi => by rw [rC_out (Or.inl (by omega))]; exact d i hi⟩
theorem Wd.eq {lay : zLay} {x y nx : Int} {C s σ : zMem} (h : Wd lay x y nx C σ) : tC x s C = rC y σ (tC x s C) := by
  have hd := h.d
  funext o
  by_cases e : y ≤ o ∧ o < y + 12
  · have h1 : tC x s C o = C o := by funext j; exact tC_out (by unfold inT; omega)
    rw [h1, h.h o e.1 e.2]
    exact rC_in e
  · rw [rC_out (o := o) (by omega)]
theorem Wd.swap {lay : zLay} {x y nx : Int} {C s σ τ : zMem} (h : Wd lay x y nx C σ) : rC y τ (tC x s C) = tC x s (rC y τ C) := by
  have hd := h.d
  funext o
  by_cases e : y ≤ o ∧ o < y + 12
  · funext j
    rw [tC_out (show ¬ inT (o - x) by unfold inT; omega), rC_in (C' := C) e]
  · rw [rC_out (o := o) (by omega)]
    funext j
    by_cases hi : inT (o - x)
    · unfold tC
      rw [zif_t hi, zif_t hi]
    · rw [tC_out hi, tC_out hi, rC_out (o := o) (by omega)]
/-- the class's own rows that count are as they were; the council now is M -/
def zPu (lay : zLay) (x : Int) (C s s' C' : zMem) (M : Int → Int) : Prop := (∀ i, (i = 0 ∨ i = 1 ∨ (38 ≤ i ∧ i < 56) ∨ (57 ≤ i ∧ i < 273)) → s' i = s i) ∧ CoR lay x C' s' (0 + 2) M ∧ zStk C (s (0 + 2) 10) C'
theorem CoR.stk {lay : zLay} {x b p : Int} {C C' s : zMem} {M M' : Int → Int} (h : CoR lay x C s b M) (h2 : CoL lay x C p M') (hs : zStk C p C') : CoR lay x C' s b M := ⟨h.1, h.2.stk h2 hs⟩
theorem Rel.pure {lay : zLay} {x : Int} {C s σ s' C' : zMem} (h : Rel lay x C s σ) (hp : zPu lay x C s s' C' (σ 1)) : Rel lay x C' s' σ := by
  obtain ⟨p1, p2, p3⟩ := hp
  have e0 := p1 0 (by omega)
  have e1 := p1 1 (by omega)
  refine ⟨p2, h.oc, by rw [e0]; exact h.k0, h.k1, fun z => ⟨((h.kp z).1.out (fun i i0 i1 => p1 i (by omega))).stk h.now.2 p3, (h.kp z).2⟩, ?_, h.po, by rw [e1]; exact h.t1, by rw [e0]; exact h.t2, by rw [e0]; exact h.t3, h.tb, h.js⟩
  exact (h.pa.out (fun i i0 i1 => p1 i (by omega)) (by rw [e0]) (by rw [e0])).C (fun p M q => q.stk h.now.2 p3)
/-- the reference's rows that count are as they were -/
theorem Rel.ref {lay : zLay} {x : Int} {C s σ τ : zMem} {k : Int} (h : Rel lay x C s σ) (hz : zScz (zset σ 0 0 k) τ) : Rel lay x C s τ := by
  obtain ⟨z1, z2, z3⟩ := hz
  have f : ∀ j, zNz j → j ≠ 0 → τ 0 j = σ 0 j := fun j hj h0 => by rw [z1 j hj, zset_f h0]
  have g : ∀ o, zNo o → τ o = σ o := fun o ho => by rw [z2 o ho, zset_o (by unfold zNo at ho; omega)]
  have f3 := f 3 (by unfold zNz; omega) (by decide)
  have f6 := f 6 (by unfold zNz; omega) (by decide)
  have f8 := f 8 (by unfold zNz; omega) (by decide)
  have f12 := f 12 (by unfold zNz; omega) (by decide)
  have g1 := g 1 (by unfold zNo; omega)
  have g2 := g 2 (by unfold zNo; omega)
  have g4 := g 4 (by unfold zNo; omega)
  have g5 := g 5 (by unfold zNo; omega)
  have ea : qAct τ = qAct σ := by unfold qAct; rw [g1, g4]
  refine ⟨by rw [g1]; exact h.now, by rw [g1]; exact h.oc, by rw [f3]; exact h.k0, by rw [f3]; exact h.k1, by rw [f3, g2]; exact h.kp, by rw [f6, ea]; exact h.pa, by rw [f6, ea]; exact h.po, by rw [g5]; exact h.t1, by rw [f8]; exact h.t2, by rw [f12]; exact h.t3, ?_, z3⟩
  unfold zTape
  rw [f8, g5]
  exact h.tb
theorem Wd.stk {lay : zLay} {x y nx p : Int} {C C' σ : zMem} {M : Int → Int} (h : Wd lay x y nx C σ) (hL : CoL lay x C p M) (hs : zStk C p C') : Wd lay x y nx C' σ ∧ ∀ o, (lay o).1 ≠ 100 → C' o = C o := by
  rcases hL with ⟨-, e⟩ | ⟨-, n, hL⟩
  · have e2 : C' = C := by funext o; exact hs o (Or.inr e)
    rw [e2]; exact ⟨h, fun _ _ => rfl⟩
  · have l5 := hL.A.l5
    have hk : ∀ o, (lay o).1 ≠ 100 → C' o = C o := fun o ho => hs o (Or.inl (fun e => ho (by rw [e, l5])))
    refine ⟨⟨h.T, h.R, h.d, h.n, fun t q hq => ?_, fun o o0 o1 => ?_⟩, hk⟩
    · obtain ⟨a, b, d⟩ := h.S t q hq
      exact ⟨a, b, fun i hi => by rw [hk _ (by rw [b]; exact (by decide : (105 : Nat) ≠ 100))]; exact d i hi⟩
    · have hf := hL.A.far h.R (i := 5) ⟨by decide, by decide⟩
      rw [hs o (Or.inl (by omega)), h.h o o0 o1]
      exact rC_in ⟨o0, o1⟩
def zKo (k v : Int) (E1 E2 : String) : zO := if k = 0 then .inl (some (zI v)) else if k = 1 then .inr E1 else .inr E2
/-- the class has ended alike; the relation holds for any end P' of the reference -/
def zEg (lay : zLay) (x y nx : Int) (C σ : zMem) (k v : Int) (E1 E2 : String) (P' : zMem → Prop) : zQ := fun o l c n => ∃ s' C' : zMem, c = tC x s' C' ∧ (∀ o, o < nx → l o = lay o) ∧ nx ≤ n ∧ o = zKo k v E1 E2 ∧ Wd l x y n C' σ ∧ (∀ o, o < nx → (lay o).1 ≠ 100 → C' o = C o) ∧ ∀ τ, P' τ → Rel l x C' s' τ
/-- a pure end -/
def zEp (lay : zLay) (x nx : Int) (C s : zMem) (M : Int → Int) (k v : Int) (E1 E2 : String) : zQ := fun o l c n => ∃ s' C' : zMem, zPu lay x C s s' C' M ∧ o = zKo k v E1 E2 ∧ l = lay ∧ c = tC x s' C' ∧ n = nx
theorem zEp.eg {lay : zLay} {x y nx : Int} {C s σ : zMem} (hw : Wd lay x y nx C σ) (hr : Rel lay x C s σ) (k v : Int) (E1 E2 : String) : zIm (zEp lay x nx C s (σ 1) k v E1 E2) (zEg lay x y nx C σ k v E1 E2 (zScz (zset σ 0 0 k))) := by
  rintro o l c n ⟨s', C', h1, h2, h3, h4, h5⟩
  subst h3
  subst h5
  obtain ⟨w1, w2⟩ := hw.stk hr.now.2 h1.2.2
  exact ⟨s', C', h4, fun _ _ => rfl, Int.le_refl _, h2, w1, fun o _ ho => w2 o ho, fun τ hτ => (hr.pure h1).ref hτ⟩
theorem zPu.refl {lay : zLay} {x : Int} {C s : zMem} {M : Int → Int} (h : CoR lay x C s (0 + 2) M) : zPu lay x C s s C M := ⟨fun _ _ => rfl, h, zStk.refl _ _⟩
def zYp (lay : zLay) (x nx : Int) (C s : zMem) (M : Int → Int) (v : Int) : zQ := zY' (some (zI v)) (fun q C' => zPu lay x C s q C' M) lay nx x
theorem zYp.ep {lay : zLay} {x nx : Int} {C s : zMem} {M : Int → Int} {k v : Int} (E1 E2 : String) (hk : k = 0) : zIm (zYp lay x nx C s M v) (zEp lay x nx C s M k v E1 E2) := by
  rintro o l c n ⟨s', C', h1, h2, h3, h4, h5⟩
  exact ⟨s', C', h1, by rw [h2, hk]; rfl, h3, h4, h5⟩
theorem zGd.e1 {P : Prop} {lay : zLay} {x nx : Int} {C s : zMem} {M : Int → Int} {k v : Int} {E1 E2 : String} {Q : zQ} (hc : CoR lay x C s (0 + 2) M) (hn : ¬ P → k = 1) (hq : P → zIm Q (zEp lay x nx C s M k v E1 E2)) : zIm (zGd P E1 lay (tC x s C) nx Q) (zEp lay x nx C s M k v E1 E2) := by
  rintro o l c n (⟨h1, h2⟩ | ⟨h1, h2, h3, h4, h5⟩)
  · exact hq h1 o l c n h2
  · exact ⟨s, C, zPu.refl hc, by rw [h2, hn h1]; rfl, h3, h4, h5⟩
theorem zGd.e2 {P : Prop} {lay : zLay} {x nx : Int} {C s : zMem} {M : Int → Int} {k v : Int} {E1 E2 : String} {Q : zQ} (hc : CoR lay x C s (0 + 2) M) (hn : ¬ P → k = 2) (hq : P → zIm Q (zEp lay x nx C s M k v E1 E2)) : zIm (zGd P E2 lay (tC x s C) nx Q) (zEp lay x nx C s M k v E1 E2) := by
  rintro o l c n (⟨h1, h2⟩ | ⟨h1, h2, h3, h4, h5⟩)
  · exact hq h1 o l c n h2
  · exact ⟨s, C, zPu.refl hc, by rw [h2, hn h1]; rfl, h3, h4, h5⟩
section ZPU
variable {lay : zLay} {x nx v : Int} {C s : zMem} {M : Int → Int}
theorem pu_R (hc : CoR lay x C s (0 + 2) M) : zIm (zR (some (zI v)) lay (tC x s C) nx) (zYp lay x nx C s M v) := by
  rintro o l c n ⟨h1, h2, h3, h4⟩
  exact ⟨s, C, zPu.refl hc, h1, h2, h3, h4⟩
theorem pu_Y {P : zMem → zMem → Prop} (h : ∀ q C', P q C' → zPu lay x C s q C' M) : zIm (zY' (some (zI v)) P lay nx x) (zYp lay x nx C s M v) := by
  rintro o l c n ⟨s', C', h1, h2, h3, h4, h5⟩
  exact ⟨s', C', h s' C' h1, h2, h3, h4, h5⟩
theorem pu_Z {P : zMem → Prop} (h : ∀ q, P q → zPu lay x C s q C M) : zIm (zZ' (some (zI v)) P lay C nx x) (zYp lay x nx C s M v) := by
  rintro o l c n ⟨s', C', ⟨h0, h1⟩, h2, h3, h4, h5⟩
  subst h0
  exact ⟨s', _, h s' h1, h2, h3, h4, h5⟩
theorem zPu.W {q : zMem} (hc : CoR lay x C s (0 + 2) M) (hI : zInv M) (h : zOut (0 + 2 + 4) 4 s q ∧ WeR q (0 + 2 + 4) M) : zPu lay x C s q C M :=
  ⟨fun i hi => h.1 i (by omega), ⟨hc.1.weq hI h.1 h.2, by rw [h.1 (0 + 2) (by omega)]; exact hc.2⟩, zStk.refl _ _⟩
theorem zPu.F {q C' : zMem} (hc : CoR lay x C s (0 + 2) M) (h : zFc (0 + 2) s C q C') : zPu lay x C s q C' M :=
  ⟨fun i hi => h.1 i (by omega), hc.fc h, h.2⟩
theorem zPu.Tr {q C' : zMem} (hc : CoR lay x C s (0 + 2) M) (h : (∀ i, ¬ (20 ≤ i ∧ i < 38) → q i = s i) ∧ zStk C (s (0 + 2) 10) C') : zPu lay x C s q C' M :=
  ⟨fun i hi => h.1 i (by omega), zTr.R h hc, h.2⟩
theorem zPu.A {q C' : zMem} (h : (∀ i, ¬ (6 ≤ i ∧ i < 20) → q i = s i) ∧ CoR lay x C' q (0 + 2) M ∧ zStk C (s (0 + 2) 10) C') : zPu lay x C s q C' M :=
  ⟨fun i hi => h.1 i (by omega), h.2.1, h.2.2⟩
theorem zPu.Pd {q C' : zMem} (h : zPd (0 + 2) s C q C' ∧ CoR lay x C' q (0 + 2) M) : zPu lay x C s q C' M :=
  ⟨fun i hi => h.1.1 i (by omega) (by omega), h.2, h.1.2.2⟩
theorem zPu.Far {q : zMem} (hc : CoR lay x C s (0 + 2) M) (h : ∀ i, i < 303 → q i = s i) : zPu lay x C s q C M :=
  ⟨fun i hi => h i (by omega), hc.out (fun i i0 i1 => h i (by omega)), zStk.refl _ _⟩
end ZPU
/-- the reference's end: its answer, what it says of a throw, and P' of its rows -/
def zRf (lay : zLay) (y nx : Int) (C0 : zMem) (k v : Int) (P' : zMem → Prop) : zQ := fun o l c n => ∃ τ : zMem, c = rC y τ C0 ∧ l = lay ∧ n = nx ∧ o = .inl (some (zI v)) ∧ τ 0 0 = k ∧ P' τ
theorem zRf.R {lay : zLay} {y nx k v : Int} {C0 σ : zMem} (hJ : zJs σ) : zIm (zR (some (zI v)) lay (rC y (zset σ 0 0 k) C0) nx) (zRf lay y nx C0 k v (zScz (zset σ 0 0 k))) := by
  rintro o l c n ⟨h1, h2, h3, h4⟩
  exact ⟨_, h3, h2, h4, h1, zset_eq, zScz.refl (hJ.set (by decide) (fun _ => Or.inl rfl))⟩
theorem zRf.X {lay : zLay} {y nx k v : Int} {C0 σ : zMem} {P : zMem → Prop} (h : ∀ τ, P τ → zScz (zset σ 0 0 k) τ) : zIm (zX' (some (zI v)) P lay C0 nx y) (zRf lay y nx C0 k v (zScz (zset σ 0 0 k))) := by
  rintro o l c n ⟨τ, h0, h1, h2, h3, h4⟩
  have hz := h τ h0
  exact ⟨τ, h3, h2, h4, h1, by rw [hz.1 0 (by unfold zNz; omega)]; exact zset_eq, hz⟩
/-- one call of both -/
def zPair (G : zG) (lay : zLay) (x y nx : Int) (C s σ : zMem) (K1 : zK) (D1 : Nat) (av : List zAV) (b : Nat × Nat) (K2 : zK) (D2 : Nat) (E1 E2 : String) (Pv : Int → Int → Prop) : Prop :=
  ∃ (k v v' : Int) (P' : zMem → Prop), (k = 0 ∨ k = 1 ∨ (k = 2 ∧ E1 ≠ E2)) ∧ (k = 0 → v = v') ∧ Pv k v' ∧ zMM G D1 K1 (zP (x + 0) :: av) lay (tC x s C) nx b (zEg lay x y nx C σ k v E1 E2 P') ∧
    ∀ (lay' : zLay) (nx' : Int) (C0 : zMem), RefL lay' y → TxS lay' C0 → zMM G D2 K2 (zP y :: av) lay' (rC y σ C0) nx' (0, 0) (zRf lay' y nx' C0 k v' P')
