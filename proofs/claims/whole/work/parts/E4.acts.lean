/-! Acts: both remember, both change. -/
theorem PaR.eq {lay : zLay} {x n : Int} {C s : zMem} {A B : Int → Int → Int} (h : PaR lay x C s n A) (e : ∀ i, 0 ≤ i → i < n → B i = A i) : PaR lay x C s n B := by
  obtain ⟨p1, p2, p3, p4⟩ := h
  exact ⟨p1, p2, p3, fun i i0 i1 => by rw [e i i0 i1]; exact p4 i i0 i1⟩
/-- the reference has remembered -/
def zRem (σ τ : zMem) : Prop := (τ 0 3 = σ 0 3) ∧ (τ 0 8 = σ 0 8) ∧ (τ 0 12 = σ 0 12) ∧ (τ 0 6 = (if σ 0 6 = 12 then 12 else σ 0 6 + 1)) ∧ (τ 2 = σ 2) ∧ (τ 5 = σ 5) ∧ (∀ i, 0 ≤ i → i < (if σ 0 6 = 12 then 12 else σ 0 6 + 1) → qAct τ i = qPast (σ 0 6) (qAct σ) (σ 1) i) ∧ (zJs τ)
theorem zRem.f3 {σ τ : zMem} (h : zRem σ τ) : τ 0 3 = σ 0 3 := h.1
theorem zRem.f8 {σ τ : zMem} (h : zRem σ τ) : τ 0 8 = σ 0 8 := h.2.1
theorem zRem.f12 {σ τ : zMem} (h : zRem σ τ) : τ 0 12 = σ 0 12 := h.2.2.1
theorem zRem.f6 {σ τ : zMem} (h : zRem σ τ) : τ 0 6 = (if σ 0 6 = 12 then 12 else σ 0 6 + 1) := h.2.2.2.1
theorem zRem.r2 {σ τ : zMem} (h : zRem σ τ) : τ 2 = σ 2 := h.2.2.2.2.1
theorem zRem.r5 {σ τ : zMem} (h : zRem σ τ) : τ 5 = σ 5 := h.2.2.2.2.2.1
theorem zRem.ac {σ τ : zMem} (h : zRem σ τ) : ∀ i, 0 ≤ i → i < (if σ 0 6 = 12 then 12 else σ 0 6 + 1) → qAct τ i = qPast (σ 0 6) (qAct σ) (σ 1) i := h.2.2.2.2.2.2.1
theorem zRem.js {σ τ : zMem} (h : zRem σ τ) : zJs τ := h.2.2.2.2.2.2.2
theorem zRem.row1 {σ τ υ : zMem} (h : zRem σ τ) (e : ∀ o, o ≠ 1 → υ o = τ o) (e1 : ∀ j, j < 0 ∨ 426 ≤ j → υ 1 j = τ 1 j) (hJ : zJs υ) : zRem σ υ := by
  have e0 := e 0 (by decide)
  refine ⟨by rw [e0]; exact h.f3, by rw [e0]; exact h.f8, by rw [e0]; exact h.f12, by rw [e0]; exact h.f6, by rw [e 2 (by decide)]; exact h.r2, by rw [e 5 (by decide)]; exact h.r5, fun i i0 i1 => ?_, hJ⟩
  rw [← h.ac i i0 i1]
  funext j
  unfold qAct
  by_cases z : 0 ≤ j ∧ j < 426
  · rw [if_pos z, if_pos z, e 4 (by decide)]
  · rw [if_neg z, if_neg z, e1 j (by omega)]
theorem zRem.scr {σ τ υ : zMem} (h : zRem σ τ) (hz : zScr τ υ) : zRem σ υ := by
  have f : ∀ j, zNs j → υ 0 j = τ 0 j := hz.1
  have g : ∀ o, o ≠ 0 → o ≠ 6 → υ o = τ o := hz.2.1
  have ea : qAct υ = qAct τ := by unfold qAct; rw [g 1 (by decide) (by decide), g 4 (by decide) (by decide)]
  refine ⟨by rw [f 3 (by unfold zNs; omega)]; exact h.f3, by rw [f 8 (by unfold zNs; omega)]; exact h.f8, by rw [f 12 (by unfold zNs; omega)]; exact h.f12, by rw [f 6 (by unfold zNs; omega)]; exact h.f6, by rw [g 2 (by decide) (by decide)]; exact h.r2, by rw [g 5 (by decide) (by decide)]; exact h.r5, by rw [ea]; exact h.ac, hz.2.2⟩
theorem zRem.rem {σ : zMem} (ha : 0 ≤ σ 0 6 ∧ σ 0 6 ≤ 12) (hJ : zJs σ) : zRem σ (qRem (zset σ 0 0 0)) ∧ qRem (zset σ 0 0 0) 1 = σ 1 ∧ qRem (zset σ 0 0 0) 0 0 = 0 := by
  have e6 : zset σ 0 0 0 0 6 = σ 0 6 := zset_f (by decide)
  have o : ∀ q, q ≠ 0 → zset σ 0 0 0 q = σ q := fun q hq => zset_o hq
  have f : ∀ j, j ≠ 0 → zset σ 0 0 0 0 j = σ 0 j := fun j hj => zset_f hj
  unfold qRem
  by_cases h12 : σ 0 6 = 12
  · have e1 : qRem1 (zset σ 0 0 0) = zset (zRow (zset σ 0 0 0) 4 (qshift (σ 4) 4686)) 0 6 11 := by
      unfold qRem1
      rw [e6, if_pos h12, h12, o 4 (by decide)]
      rfl
    rw [e1]
    have k6 : zset (zRow (zset σ 0 0 0) 4 (qshift (σ 4) 4686)) 0 6 11 0 6 = 11 := zset_eq
    have k4 : zset (zRow (zset σ 0 0 0) 4 (qshift (σ 4) 4686)) 0 6 11 4 = qshift (σ 4) 4686 := by rw [zset_o (by decide), zRow_e]
    have kr : ∀ q, q ≠ 0 → q ≠ 4 → zset (zRow (zset σ 0 0 0) 4 (qshift (σ 4) 4686)) 0 6 11 q = σ q := fun q h0 h4 => by rw [zset_o h0, zRow_o h4, o q h0]
    have kf : ∀ j, j ≠ 0 → j ≠ 6 → zset (zRow (zset σ 0 0 0) 4 (qshift (σ 4) 4686)) 0 6 11 0 j = σ 0 j := fun j h0 h6 => by rw [zset_f h6, zRow_o (by decide), f j h0]
    have k00 : zset (zRow (zset σ 0 0 0) 4 (qshift (σ 4) 4686)) 0 6 11 0 0 = 0 := by rw [zset_f (by decide), zRow_o (by decide)]; exact zset_eq
    generalize zset (zRow (zset σ 0 0 0) 4 (qshift (σ 4) 4686)) 0 6 11 = τ at k6 k4 kr kf k00 ⊢
    unfold qRem2
    rw [k6, k4, kr 1 (by decide) (by decide)]
    have m : ∀ q, q ≠ 0 → q ≠ 4 → zset (zRow τ 4 (qput (qshift (σ 4) 4686) (σ 1) (426 * 11) 426)) 0 6 (11 + 1) q = σ q := fun q h0 h4 => by rw [zset_o h0, zRow_o h4, kr q h0 h4]
    have n : ∀ j, j ≠ 0 → j ≠ 6 → zset (zRow τ 4 (qput (qshift (σ 4) 4686) (σ 1) (426 * 11) 426)) 0 6 (11 + 1) 0 j = σ 0 j := fun j h0 h6 => by rw [zset_f h6, zRow_o (by decide), kf j h0 h6]
    refine ⟨⟨n 3 (by decide) (by decide), n 8 (by decide) (by decide), n 12 (by decide) (by decide), by rw [if_pos h12]; exact zset_eq, m 2 (by decide) (by decide), m 5 (by decide) (by decide), fun i i0 i1 => ?_, ?_⟩, m 1 (by decide) (by decide), by rw [zset_f (by decide), zRow_o (by decide)]; exact k00⟩
    · rw [if_pos h12] at i1
      funext j
      unfold qAct qPast
      rw [m 1 (by decide) (by decide), zset_o (show (4 : Int) ≠ 0 by decide), zRow_e, if_pos h12]
      unfold qput qshift
      by_cases z : 0 ≤ j ∧ j < 426
      · rw [if_pos z]
        by_cases e : i = 11
        · rw [if_pos e, if_pos (by omega), show 426 * i + j - 426 * 11 = j by omega]
        · rw [if_neg e]
          dsimp only
          rw [if_pos z, if_neg (by omega), if_pos (by omega), show 426 * i + j + 426 = 426 * (i + 1) + j by omega]
      · rw [if_neg z]
        by_cases e : i = 11
        · rw [if_pos e]
        · rw [if_neg e]
          dsimp only
          rw [if_neg z]
    · unfold zJs
      rw [m 6 (by decide) (by decide), n 15 (by decide) (by decide), n 16 (by decide) (by decide), n 18 (by decide) (by decide), n 19 (by decide) (by decide)]
      exact hJ
  · have e1 : qRem1 (zset σ 0 0 0) = zset σ 0 0 0 := by
      unfold qRem1
      rw [e6, if_neg h12]
    rw [e1]
    unfold qRem2
    rw [e6, o 4 (by decide), o 1 (by decide)]
    have m : ∀ q, q ≠ 0 → q ≠ 4 → zset (zRow (zset σ 0 0 0) 4 (qput (σ 4) (σ 1) (426 * σ 0 6) 426)) 0 6 (σ 0 6 + 1) q = σ q := fun q h0 h4 => by rw [zset_o h0, zRow_o h4, o q h0]
    have n : ∀ j, j ≠ 0 → j ≠ 6 → zset (zRow (zset σ 0 0 0) 4 (qput (σ 4) (σ 1) (426 * σ 0 6) 426)) 0 6 (σ 0 6 + 1) 0 j = σ 0 j := fun j h0 h6 => by rw [zset_f h6, zRow_o (by decide), f j h0]
    refine ⟨⟨n 3 (by decide) (by decide), n 8 (by decide) (by decide), n 12 (by decide) (by decide), by rw [if_neg h12]; exact zset_eq, m 2 (by decide) (by decide), m 5 (by decide) (by decide), fun i i0 i1 => ?_, ?_⟩, m 1 (by decide) (by decide), by rw [zset_f (by decide), zRow_o (by decide)]; exact zset_eq⟩
    · rw [if_neg h12] at i1
      funext j
      unfold qAct qPast
      rw [m 1 (by decide) (by decide), zset_o (show (4 : Int) ≠ 0 by decide), zRow_e, if_neg h12]
      unfold qput
      by_cases z : 0 ≤ j ∧ j < 426
      · rw [if_pos z]
        by_cases e : i = σ 0 6
        · rw [if_pos e, if_pos (by rw [e]; omega), show 426 * i + j - 426 * σ 0 6 = j by rw [e]; omega]
        · rw [if_neg e]
          dsimp only
          rw [if_pos z, if_neg (by omega)]
      · rw [if_neg z]
        by_cases e : i = σ 0 6
        · rw [if_pos e]
        · rw [if_neg e]
          dsimp only
          rw [if_neg z]
    · unfold zJs
      rw [m 6 (by decide) (by decide), n 15 (by decide) (by decide), n 16 (by decide) (by decide), n 18 (by decide) (by decide), n 19 (by decide) (by decide)]
      exact hJ
theorem Rel.act {lay : zLay} {x : Int} {C C' s s' σ τ : zMem} (h : Rel lay x C s σ) (hn : CoR lay x C' s' (0 + 2) (τ 1)) (hoc : zOC (τ 1)) (hst : zStk C (s (0 + 2) 10) C') (hpa : PaR lay x C' s' (if σ 0 6 = 12 then 12 else σ 0 6 + 1) (qPast (σ 0 6) (qAct σ) (σ 1))) (hfr : ∀ i, ¬ (57 ≤ i ∧ i < 273) → ¬ (2 ≤ i ∧ i < 20) → i ≠ 0 → s' i = s i) (hf0 : ∀ j, j ≠ 8 → j ≠ 9 → s' 0 j = s 0 j) (hτ : zRem σ τ) : Rel lay x C' s' τ := by
  have hb := h.pa.2.2.1
  refine ⟨hn, hoc, by rw [hf0 6 (by decide) (by decide), hτ.f3]; exact h.k0, by rw [hτ.f3]; exact h.k1, fun z => ?_, ?_, fun i i0 i1 => ?_, by rw [hfr 1 (by omega) (by omega) (by omega), hτ.r5]; exact h.t1, by rw [hf0 1 (by decide) (by decide), hτ.f8]; exact h.t2, by rw [hf0 2 (by decide) (by decide), hτ.f12]; exact h.t3, ?_, hτ.js⟩
  · rw [hτ.f3] at z
    rw [hτ.r2]
    exact ⟨((h.kp z).1.out (fun i i0 i1 => hfr i (by omega) (by omega) (by omega))).stk h.now.2 hst, (h.kp z).2⟩
  · rw [hτ.f6]
    exact hpa.eq hτ.ac
  · rw [hτ.f6] at i1
    rw [hτ.ac i i0 i1]
    unfold qPast
    by_cases z : σ 0 6 = 12
    · rw [if_pos z] at i1
      simp only [if_pos z]
      by_cases e : i = 11
      · simp only [if_pos e]; exact h.oc
      · simp only [if_neg e]; exact h.po (i + 1) (by omega) (by omega)
    · rw [if_neg z] at i1
      simp only [if_neg z]
      by_cases e : i = σ 0 6
      · simp only [if_pos e]; exact h.oc
      · simp only [if_neg e]; exact h.po i i0 (by omega)
  · unfold zTape
    rw [hτ.f8, hτ.r5]
    exact h.tb
