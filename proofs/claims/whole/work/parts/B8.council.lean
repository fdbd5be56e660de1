/-! A council and the row of the reference that it stands for. -/
def qHats (M : Int → Int) : Int := zors (fun p => zshl (M (46 + 4 * p + 2)) p) (M 3)
def CoN (σ : zMem) (b : Int) (M : Int → Int) : Prop := (σ b 0 = M 0) ∧ (σ b 1 = M 3) ∧ (∀ p, 0 ≤ p → p < M 3 → σ (b + 1) p = M (46 + 4 * p + 0)) ∧ (∀ p, 0 ≤ p → p < M 3 → σ (b + 2) p = M (46 + 4 * p + 1)) ∧ (∀ k, 0 ≤ k → k < 8 → σ (b + 3) k = M (38 + k)) ∧ (σ b 4 = qHats M) ∧ (σ b 5 = qOuts M) ∧ (σ b 7 = M 8) ∧ (σ b 8 = M 9) ∧ (σ b 9 = M 10) ∧ (WeR σ (b + 4) M) ∧ (MoR σ (b + 8) M) ∧ (LoR σ (b + 15) M)
theorem CoN.n0 {σ : zMem} {b : Int} {M : Int → Int} (h : CoN σ b M) : σ b 0 = M 0 := h.1
theorem CoN.n3 {σ : zMem} {b : Int} {M : Int → Int} (h : CoN σ b M) : σ b 1 = M 3 := h.2.1
theorem CoN.pl {σ : zMem} {b : Int} {M : Int → Int} (h : CoN σ b M) : ∀ p, 0 ≤ p → p < M 3 → σ (b + 1) p = M (46 + 4 * p + 0) := h.2.2.1
theorem CoN.se {σ : zMem} {b : Int} {M : Int → Int} (h : CoN σ b M) : ∀ p, 0 ≤ p → p < M 3 → σ (b + 2) p = M (46 + 4 * p + 1) := h.2.2.2.1
theorem CoN.ex {σ : zMem} {b : Int} {M : Int → Int} (h : CoN σ b M) : ∀ k, 0 ≤ k → k < 8 → σ (b + 3) k = M (38 + k) := h.2.2.2.2.1
theorem CoN.ha {σ : zMem} {b : Int} {M : Int → Int} (h : CoN σ b M) : σ b 4 = qHats M := h.2.2.2.2.2.1
theorem CoN.ou {σ : zMem} {b : Int} {M : Int → Int} (h : CoN σ b M) : σ b 5 = qOuts M := h.2.2.2.2.2.2.1
theorem CoN.n8 {σ : zMem} {b : Int} {M : Int → Int} (h : CoN σ b M) : σ b 7 = M 8 := h.2.2.2.2.2.2.2.1
theorem CoN.n9 {σ : zMem} {b : Int} {M : Int → Int} (h : CoN σ b M) : σ b 8 = M 9 := h.2.2.2.2.2.2.2.2.1
theorem CoN.n10 {σ : zMem} {b : Int} {M : Int → Int} (h : CoN σ b M) : σ b 9 = M 10 := h.2.2.2.2.2.2.2.2.2.1
theorem CoN.we {σ : zMem} {b : Int} {M : Int → Int} (h : CoN σ b M) : WeR σ (b + 4) M := h.2.2.2.2.2.2.2.2.2.2.1
theorem CoN.mo {σ : zMem} {b : Int} {M : Int → Int} (h : CoN σ b M) : MoR σ (b + 8) M := h.2.2.2.2.2.2.2.2.2.2.2.1
theorem CoN.lo {σ : zMem} {b : Int} {M : Int → Int} (h : CoN σ b M) : LoR σ (b + 15) M := h.2.2.2.2.2.2.2.2.2.2.2.2
/-- the facts as the class holds them -/
def qFaOK (F : Int → Int) : Prop := zFact F ∧ (F 7 = 0 ∨ F 7 = 1) ∧ (F 9 = 0 ∨ F 9 = 1) ∧ F 8 = zbi (1 < F 3)
/-- the law at p is what the row's letters say -/
def LwM (lay : zLay) (x : Int) (C0 : zMem) (p n : Int) (M : Int → Int) : Prop := (LwA lay x p n) ∧ (LwF C0 p) ∧ (LwB C0 p n) ∧ (C0 p 0 = M 1) ∧ (∀ T : Int → Int, (∀ i, 0 ≤ i → i < M 2 → T i = M (426 + i)) → ∀ F, qFaOK F → ∃ V, LwRun C0 p F V ∧ (qLaw T (M 2) (qAtom T (M 2) F (F 7) (F 9) 6) (0, 0, 0) 0).2.1 = (qSumL C0 p 0 V (C0 p 0) - qSumL C0 p 1 V (C0 p 0), zbi (∃ i, (0 ≤ i ∧ i < C0 p 0) ∧ C0 (p + 1) i = 2), zbi (0 < qSumL C0 p 2 V (C0 p 0))))
theorem LwM.A {lay : zLay} {x : Int} {C0 : zMem} {p n : Int} {M : Int → Int} (h : LwM lay x C0 p n M) : LwA lay x p n := h.1
theorem LwM.F {lay : zLay} {x : Int} {C0 : zMem} {p n : Int} {M : Int → Int} (h : LwM lay x C0 p n M) : LwF C0 p := h.2.1
theorem LwM.B {lay : zLay} {x : Int} {C0 : zMem} {p n : Int} {M : Int → Int} (h : LwM lay x C0 p n M) : LwB C0 p n := h.2.2.1
theorem LwM.n1 {lay : zLay} {x : Int} {C0 : zMem} {p n : Int} {M : Int → Int} (h : LwM lay x C0 p n M) : C0 p 0 = M 1 := h.2.2.2.1
theorem LwM.S {lay : zLay} {x : Int} {C0 : zMem} {p n : Int} {M : Int → Int} (h : LwM lay x C0 p n M) : ∀ T : Int → Int, (∀ i, 0 ≤ i → i < M 2 → T i = M (426 + i)) → ∀ F, qFaOK F → ∃ V, LwRun C0 p F V ∧ (qLaw T (M 2) (qAtom T (M 2) F (F 7) (F 9) 6) (0, 0, 0) 0).2.1 = (qSumL C0 p 0 V (C0 p 0) - qSumL C0 p 1 V (C0 p 0), zbi (∃ i, (0 ≤ i ∧ i < C0 p 0) ∧ C0 (p + 1) i = 2), zbi (0 < qSumL C0 p 2 V (C0 p 0))) := h.2.2.2.2
def CoL (lay : zLay) (x : Int) (C0 : zMem) (p : Int) (M : Int → Int) : Prop := (M 1 = -1 ∧ p = -1) ∨ (0 ≤ M 1 ∧ ∃ n, LwM lay x C0 p n M)
def CoR (lay : zLay) (x : Int) (C0 σ : zMem) (b : Int) (M : Int → Int) : Prop := CoN σ b M ∧ CoL lay x C0 (σ b 10) M
theorem LwM.cg {lay : zLay} {x : Int} {C0 C : zMem} {p n : Int} {M : Int → Int} (h : LwM lay x C0 p n M) (e : zSame C0 p C) : LwM lay x C p n M := by
  refine ⟨h.A, h.F.cg e.1, h.B.cg e, by rw [e.1]; exact h.n1, fun T hT F hF => ?_⟩
  obtain ⟨V, h1, h2⟩ := h.S T hT F hF
  refine ⟨V, h1.cg e, ?_⟩
  rw [qSumL_cg e, qSumL_cg e, qSumL_cg e, e.1, e.2.1]
  exact h2
theorem CoL.cg {lay : zLay} {x : Int} {C0 C : zMem} {p : Int} {M : Int → Int} (h : CoL lay x C0 p M) (e : zSame C0 p C) : CoL lay x C p M := by
  rcases h with h | ⟨h, n, h2⟩
  · exact Or.inl h
  · exact Or.inr ⟨h, n, h2.cg e⟩
/-- another law's stack has changed -/
theorem LwM.stk {lay : zLay} {x : Int} {C0 C : zMem} {p n q m : Int} {M : Int → Int} (h : LwM lay x C0 p n M) (hq : LwA lay x q m) (hs : zStk C0 q C) : LwM lay x C p n M := by
  refine h.cg ?_
  have key : ∀ i, 0 ≤ i → i < 5 → p + i ≠ q + 5 := by
    intro i i0 i1 e
    have a := h.A
    have l0 := a.l0
    have q0 := hq.l0
    have k1 := hq.l1
    have k2 := hq.l2
    have k3 := hq.l3
    have k4 := hq.l4
    have k5 := hq.l5
    have : i = 0 ∨ i = 1 ∨ i = 2 ∨ i = 3 ∨ i = 4 := by omega
    rcases this with e1 | e1 | e1 | e1 | e1 <;> subst e1
    · rw [show p = q + 5 by omega] at l0; rw [l0] at k5; exact absurd k5 (by decide)
    · rw [show p = q + 4 by omega] at l0; rw [l0] at k4; exact absurd (show (4 : Nat) = 100 from congrArg Prod.fst k4) (by decide)
    · rw [show p = q + 3 by omega] at l0; rw [l0] at k3; exact absurd k3 (by decide)
    · rw [show p = q + 2 by omega] at l0; rw [l0] at k2; exact absurd k2 (by decide)
    · rw [show p = q + 1 by omega] at l0; rw [l0] at k1; exact absurd k1 (by decide)
  have h0 := key 0 (by decide) (by decide)
  rw [Int.add_zero] at h0
  exact ⟨hs _ (Or.inl h0), hs _ (Or.inl (key 1 (by decide) (by decide))), hs _ (Or.inl (key 2 (by decide) (by decide))), hs _ (Or.inl (key 3 (by decide) (by decide))), hs _ (Or.inl (key 4 (by decide) (by decide)))⟩
/-- a law that is there has been asked, or there was none -/
theorem CoL.stk {lay : zLay} {x : Int} {C0 C : zMem} {p q : Int} {M M' : Int → Int} (h : CoL lay x C0 p M) (h2 : CoL lay x C0 q M') (hs : zStk C0 q C) : CoL lay x C p M := by
  rcases h2 with ⟨-, h2⟩ | ⟨-, m, h2⟩
  · have e : C = C0 := by
      funext o
      exact hs o (Or.inr h2)
    rw [e]; exact h
  · rcases h with h | ⟨h, n, h3⟩
    · exact Or.inl h
    · exact Or.inr ⟨h, n, h3.stk h2.A hs⟩
theorem CoN.out {σ s : zMem} {b : Int} {M : Int → Int} (h : CoN σ b M) (h0 : ∀ i, 0 ≤ i → i < 17 → i ≠ 6 → i ≠ 7 → s (b + i) = σ (b + i)) : CoN s b M := by
  have e0 := h0 0 (by decide) (by decide) (by decide) (by decide)
  rw [Int.add_zero] at e0
  refine ⟨by rw [e0]; exact h.n0, by rw [e0]; exact h.n3, ?_, ?_, ?_, by rw [e0]; exact h.ha, by rw [e0]; exact h.ou, by rw [e0]; exact h.n8, by rw [e0]; exact h.n9, by rw [e0]; exact h.n10, ?_, ?_, ?_⟩
  · rw [h0 1 (by decide) (by decide) (by decide) (by decide)]; exact h.pl
  · rw [h0 2 (by decide) (by decide) (by decide) (by decide)]; exact h.se
  · rw [h0 3 (by decide) (by decide) (by decide) (by decide)]; exact h.ex
  · exact h.we.out (h0 4 (by decide) (by decide) (by decide) (by decide)) (by rw [Int.add_assoc]; exact h0 5 (by decide) (by decide) (by decide) (by decide))
  · exact h.mo.out (fun i i0 i1 => by rw [Int.add_assoc]; exact h0 _ (by omega) (by omega) (by omega) (by omega))
  · exact h.lo.out (h0 15 (by decide) (by decide) (by decide) (by decide)) (by rw [Int.add_assoc]; exact h0 16 (by decide) (by decide) (by decide) (by decide))
def qSeat (M : Int → Int) (set n : Int) : Int := zsum (fun p => zbit set p * M (46 + 4 * p + 1)) n
theorem c_X1_seatsOf {G : zG} {lay : zLay} {σ C0 : zMem} {nx x b : Int} (hT : TopL lay x) {set : Int} {M : Int → Int} (hA : CoAt b) (hN : CoN σ b M) (hI : zInv M) : zMM G 2 KX1_seatsOf [zP (x + b), zI set] lay (tC x σ C0) nx (0, 0) (zR (some (zI (qSeat M set (M 3)))) lay (tC x (σ) (C0)) nx) := by
  refine z_met' (L := [zP (x + b), zI set, zU, zU]) gX1_seatsOf.1 rfl rfl (Nat.le_of_ble_eq_true rfl) rfl ?_
  have hb0 := hA.b0 (by decide)
  have hne : x + b ≠ -1 := by have := hT.1; omega
  have hm3 := hI.m3
  have hl : ∀ t : Int, 0 ≤ t → t ≤ (M 3) → zW G KX1_seatsOf 2 (zR (some (zI (qSeat M set (M 3)))) lay (tC x (σ) (C0)) nx) 4 [zP (x + b), zI set, zI (qSeat M set t), zI t] [] lay (tC x (σ) C0) nx (0, 0) := by
    refine z_up ((M 3)) ?_ ?_
    · refine z_il3 eX1_seatsOf_4 ?_
      refine z_al0 eX1_seatsOf_5 hne ?_
      first | refine z_tg0 (j := 1) lX1_66 eX1_seatsOf_6 rfl hT hA (by decide) rfl rfl rfl ?_ | refine z_tg (j := 1) lX1_66 eX1_seatsOf_6 rfl hT hA ⟨by decide, by decide⟩ rfl rfl rfl ?_
      rw [hN.n3]
      refine z_icmp_ge (tgt := 33) eX1_seatsOf_9 rfl ⟨⟨by omega, by omega⟩, ⟨by omega, by omega⟩⟩ (fun h9 => ?_) (fun h9 => (by exfalso; omega))
      refine z_il2 eX1_seatsOf_33 ?_
      refine z_ireturn eX1_seatsOf_34 rfl ?_
      first | exact ⟨rfl, rfl, rfl, rfl⟩ | exact zRb1 (by omega) | exact zRb0 (by omega) | exact zRe (by omega)
    · intro t h0 h1 ih
      rw [show qSeat M set (t + 1) = qSeat M set t + zbit set t * M (46 + 4 * t + 1) from zsum_s _ h0] at ih
      refine z_il3 eX1_seatsOf_4 ?_
      refine z_al0 eX1_seatsOf_5 hne ?_
      first | refine z_tg0 (j := 1) lX1_66 eX1_seatsOf_6 rfl hT hA (by decide) rfl rfl rfl ?_ | refine z_tg (j := 1) lX1_66 eX1_seatsOf_6 rfl hT hA ⟨by decide, by decide⟩ rfl rfl rfl ?_
      rw [hN.n3]
      refine z_icmp_ge (tgt := 33) eX1_seatsOf_9 rfl ⟨⟨by omega, by omega⟩, ⟨by omega, by omega⟩⟩ (fun h9 => (by exfalso; omega)) (fun h9 => ?_)
      refine z_il2 eX1_seatsOf_12 ?_
      refine z_il1 eX1_seatsOf_13 ?_
      refine z_il3 eX1_seatsOf_14 ?_
      refine z_N2 eX1_seatsOf_15 vX1_101 rfl (Nat.le_of_ble_eq_true rfl) (Nat.le_of_ble_eq_true rfl) (c_X11_bitOf hT ⟨by omega, by omega⟩) ?_
      refine z_al0 eX1_seatsOf_18 hne ?_
      first | refine z_ta0 lX1_15 eX1_seatsOf_19 rfl hT hA (by decide) rfl rfl ?_ | refine z_ta lX1_15 eX1_seatsOf_19 rfl hT hA ⟨by decide, by decide⟩ rfl rfl ?_
      refine z_il3 eX1_seatsOf_22 ?_
      refine z_tl eX1_seatsOf_23 hT hA ⟨by decide, by decide⟩ rfl rfl ⟨by omega, by omega⟩ ?_
      rw [hN.se t h0 h1]
      refine z_imul eX1_seatsOf_24 ?_
      refine z_iadd eX1_seatsOf_25 ?_
      refine z_is2 eX1_seatsOf_26 (Nat.ne_of_beq_eq_false rfl) ?_
      refine z_ii3 eX1_seatsOf_27 (Nat.ne_of_beq_eq_false rfl) ?_
      refine z_goto eX1_seatsOf_30 (tgt := 4) rfl ?_
      exact ih
  refine z_iconst eX1_seatsOf_0 ?_
  refine z_is2 eX1_seatsOf_1 (Nat.ne_of_beq_eq_false rfl) ?_
  refine z_iconst eX1_seatsOf_2 ?_
  refine z_is3 eX1_seatsOf_3 (Nat.ne_of_beq_eq_false rfl) ?_
  exact hl 0 (by decide) hm3.1
