/-! An hour goes by. -/
theorem WeR.m {σ : zMem} {b : Int} {M M' : Int → Int} (h : WeR σ b M) (e : ∀ j, j = 5 ∨ j = 6 ∨ j = 7 ∨ j = 12 ∨ (13 ≤ j ∧ j < 38) → M' j = M j) : WeR σ b M' := by
  refine ⟨⟨?_, ?_, ?_, ?_⟩, fun t t0 t1 => ?_⟩
  · rw [e 5 (by omega)]; exact h.1.1
  · rw [e 6 (by omega)]; exact h.1.2.1
  · rw [e 7 (by omega)]; exact h.1.2.2.1
  · rw [e 12 (by omega)]; exact h.1.2.2.2
  · rw [e _ (by omega)]; exact h.2 t t0 t1
theorem MoR.m {σ : zMem} {b : Int} {M M' : Int → Int} (h : MoR σ b M) (hm : M 4 ≤ 8) (e : ∀ j, j = 4 ∨ (74 ≤ j ∧ j < 126) → M' j = M j) : MoR σ b M' := by
  refine ⟨?_, fun k k0 k1 => ?_, fun t t0 t1 => ?_⟩
  · rw [e 4 (by omega)]; exact h.1
  · rw [e 4 (by omega)] at k1
    rw [e _ (by omega), e _ (by omega), e _ (by omega), e _ (by omega), e _ (by omega)]; exact h.2.1 k k0 k1
  · rw [e _ (by omega)]; exact h.2.2 t t0 t1
theorem LoR.m {σ : zMem} {b : Int} {M M' : Int → Int} (h : LoR σ b M) (hm : M 11 ≤ 60) (e : ∀ j, j = 11 ∨ (126 ≤ j ∧ j < 426) → M' j = M j) : LoR σ b M' := by
  refine ⟨?_, fun a w a0 a1 w0 w1 => ?_⟩
  · rw [e 11 (by omega)]; exact h.1
  · rw [e 11 (by omega)] at a1 ⊢
    rw [e _ (by omega)]; exact h.2 a w a0 a1 w0 w1
theorem zors_eq {f g : Int → Int} {n m : Int} (hn : n = m) (h : ∀ t, 0 ≤ t → t < n → f t = g t) : zors f n = zors g m := by rw [← hn]; exact zors_congr h
theorem CoN.of {σ s : zMem} {b : Int} {M M' : Int → Int} (h : CoN σ b M) (hm : M 3 ≤ 7) (c0 : s b = σ b) (c1 : s (b + 1) = σ (b + 1)) (c2 : s (b + 2) = σ (b + 2)) (c3 : s (b + 3) = σ (b + 3)) (e : ∀ j, j = 0 ∨ j = 3 ∨ j = 8 ∨ j = 9 ∨ j = 10 ∨ (38 ≤ j ∧ j < 74) → M' j = M j) (hw : WeR s (b + 4) M') (ho : MoR s (b + 8) M') (hl : LoR s (b + 15) M') : CoN s b M' := by
  have e3 := e 3 (by omega)
  refine ⟨?_, ?_, ?_, ?_, ?_, ?_, ?_, ?_, ?_, ?_, hw, ho, hl⟩
  · rw [c0, e 0 (by omega)]; exact h.n0
  · rw [c0, e3]; exact h.n3
  · intro p p0 p1; rw [e3] at p1; rw [c1, e _ (by omega)]; exact h.pl p p0 p1
  · intro p p0 p1; rw [e3] at p1; rw [c2, e _ (by omega)]; exact h.se p p0 p1
  · intro k k0 k1; rw [c3, e _ (by omega)]; exact h.ex k k0 k1
  · rw [c0, h.ha]; exact zors_eq e3.symm (fun t t0 t1 => by rw [e _ (by omega)])
  · rw [c0, h.ou]; exact zors_eq e3.symm (fun t t0 t1 => by rw [e _ (by omega)])
  · rw [c0, e 8 (by omega)]; exact h.n8
  · rw [c0, e 9 (by omega)]; exact h.n9
  · rw [c0, e 10 (by omega)]; exact h.n10
theorem CoL.m {lay : zLay} {x : Int} {C0 : zMem} {p : Int} {M M' : Int → Int} (h : CoL lay x C0 p M) (e1 : M' 1 = M 1) (e2 : M' 2 = M 2) (e : ∀ i, 0 ≤ i → M' (426 + i) = M (426 + i)) : CoL lay x C0 p M' := by
  rcases h with h | ⟨h, n, h2⟩
  · exact Or.inl ⟨by rw [e1]; exact h.1, h.2⟩
  · refine Or.inr ⟨by rw [e1]; exact h, n, h2.A, h2.F, h2.B, by rw [e1]; exact h2.n1, fun T hT F hF => ?_⟩
    rw [e2] at hT ⊢
    exact h2.S T (fun i i0 i1 => (hT i i0 i1).trans (e i i0)) F hF
theorem CoR.of {lay : zLay} {x b : Int} {C0 σ s : zMem} {M M' : Int → Int} (h : CoR lay x C0 σ b M) (hN : CoN s b M') (c0 : s b = σ b) (e1 : M' 1 = M 1) (e2 : M' 2 = M 2) (e : ∀ i, 0 ≤ i → M' (426 + i) = M (426 + i)) : CoR lay x C0 s b M' := ⟨hN, by rw [c0]; exact h.2.m e1 e2 e⟩
theorem zOC.m {M M' : Int → Int} (h : zOC M) (ho : zOL M') (e : ∀ j, j = 3 ∨ j = 4 ∨ (114 ≤ j ∧ j < 126) ∨ (74 ≤ j ∧ j < 114 ∧ (j - 74) % 5 = 0) → M' j = M j) : zOC M' := by
  have hm4 := h.I.m4
  refine ⟨ho, fun a c a0 a1 c0 c1 => ?_, fun k k0 k1 => ?_, fun t t0 t1 => ?_⟩
  · rw [e _ (by omega), e _ (by omega)]; exact h.pap a c a0 a1 c0 c1
  · rw [e 4 (by omega)] at k1
    rw [e 3 (by omega), e _ (by omega)]; exact h.mv k k0 k1
  · rw [e 4 (by omega), e _ (by omega)]; exact h.pa t t0 t1
theorem qSkyed_f {M : Int → Int} {j : Int} (h : j ≠ 5 ∧ j ≠ 12) : qSkyed M j = M j := by unfold qSkyed qSeed; rw [zput_ne h.1, zput_ne h.2]
theorem qHourOn_j {M : Int → Int} {j : Int} (h : j ≠ 6 ∧ j ≠ 7) : qHourOn M j = M j := by
  unfold qHourOn
  split
  · rw [zput_ne h.2, zput_ne h.1, zput_ne h.1]
  · rw [zput_ne h.1]
theorem qLog_j {M : Int → Int} {k j : Int} (h : j < 126 ∨ 426 ≤ j) (h2 : j ≠ 11) : qLog M k j = M j := by
  unfold qLog
  rw [zput_ne h2, zput_ne (by omega), zput_ne (by omega), zput_ne (by omega), zput_ne (by omega), zput_ne (by omega)]
  unfold qShf
  rw [if_neg (by omega)]
theorem WeR.sky {σ : zMem} {b : Int} {M : Int → Int} (h : WeR σ b M) : WeR (zset (zset σ b 3 (1103515245 * M 12 + 12345)) b 0 (qSkyN M)) b (qSkyed M) := by
  unfold qSkyed qSeed
  refine ⟨⟨?_, ?_, ?_, ?_⟩, fun t t0 t1 => ?_⟩
  · rw [zset_eq, zput_eq]
  · rw [zset_f (by decide), zset_f (by decide), zput_ne (by decide), zput_ne (by decide)]; exact h.1.2.1
  · rw [zset_f (by decide), zset_f (by decide), zput_ne (by decide), zput_ne (by decide)]; exact h.1.2.2.1
  · rw [zset_f (by decide), zset_eq, zput_ne (by decide), zput_eq]
  · rw [zset_o (by omega), zset_o (by omega), zput_ne (by omega), zput_ne (by omega)]; exact h.2 t t0 t1
