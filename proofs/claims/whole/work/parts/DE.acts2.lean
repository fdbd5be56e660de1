/-! Acts on members and motions. -/
theorem qWith_eq {f : Int → Int} {n p v : Int} (hn : 0 ≤ n ∧ n ≤ 31) (hp : 0 ≤ p ∧ p < n) (hf : ∀ t, 0 ≤ t → t < n → f t = 0 ∨ f t = 1) (hv : v = 0 ∨ v = 1) : qWith (zors (fun t => zshl (f t) t) n) p v = zors (fun t => zshl (f t) t) n ↔ f p = v := by
  constructor
  · intro h
    have h1 := qWith_B (s := zors (fun t => zshl (f t) t) n) (p := p) (v := v) (i := p) ⟨hp.1, by omega⟩ ⟨hp.1, by omega⟩ hv
    rw [h, if_pos rfl, zbit_01s hn hf ⟨hp.1, by omega⟩] at h1
    rcases hf p hp.1 hp.2 with z | z <;> rcases hv with y | y <;> omega
  · intro h
    refine qWith_zors ⟨hn.1, Int.le_refl _, by omega, hn.2⟩ ⟨hp.1, hp.2, by omega⟩ hf hv (fun t t0 t1 => ?_)
    by_cases c : t = p
    · rw [if_pos c, c, h]
    · rw [if_neg c]
theorem CoN.plc {σ : zMem} {b p v : Int} {M : Int → Int} (h : CoN σ b M) (hI : zInv M) (hp : 0 ≤ p ∧ p < M 3) : CoN (zset σ (b + 1) p v) b (zput M (46 + 4 * p + 0) v) := by
  have hm3 := hI.m3
  have e : ∀ j, j < 46 ∨ 74 ≤ j → zput M (46 + 4 * p + 0) v j = M j := fun j hj => zput_ne (by omega)
  have o : ∀ q, q ≠ b + 1 → zset σ (b + 1) p v q = σ q := fun q hq => zset_o hq
  refine ⟨?_, ?_, ?_, ?_, ?_, ?_, ?_, ?_, ?_, ?_, ?_, ?_, ?_⟩
  · rw [o _ (by omega), e 0 (by omega)]; exact h.n0
  · rw [o _ (by omega), e 3 (by omega)]; exact h.n3
  · intro q p0 p1
    rw [e 3 (by omega)] at p1
    by_cases c : q = p
    · rw [c, zset_eq, zput_eq]
    · rw [zset_f c, zput_ne (by omega)]; exact h.pl q p0 p1
  · intro q p0 p1; rw [e 3 (by omega)] at p1; rw [o _ (by omega), zput_ne (by omega)]; exact h.se q p0 p1
  · intro j j0 j1; rw [o _ (by omega), e _ (by omega)]; exact h.ex j j0 j1
  · rw [o _ (by omega), h.ha]; exact zors_eq (e 3 (by omega)).symm (fun t t0 t1 => by rw [zput_ne (by omega)])
  · rw [o _ (by omega), h.ou]; exact zors_eq (e 3 (by omega)).symm (fun t t0 t1 => by rw [zput_ne (by omega)])
  · rw [o _ (by omega), e 8 (by omega)]; exact h.n8
  · rw [o _ (by omega), e 9 (by omega)]; exact h.n9
  · rw [o _ (by omega), e 10 (by omega)]; exact h.n10
  · exact (h.we.out (o _ (by omega)) (o _ (by omega))).m (fun j hj => e j (by omega))
  · exact (h.mo.out (fun q q0 q1 => o _ (by omega))).m hI.m4.2 (fun j hj => e j (by omega))
  · exact (h.lo.out (o _ (by omega)) (o _ (by omega))).m hI.m11.2 (fun j hj => e j (by omega))
theorem CoN.sea {σ : zMem} {b p v : Int} {M : Int → Int} (h : CoN σ b M) (hI : zInv M) (hp : 0 ≤ p ∧ p < M 3) : CoN (zset σ (b + 2) p v) b (zput M (46 + 4 * p + 1) v) := by
  have hm3 := hI.m3
  have e : ∀ j, j < 46 ∨ 74 ≤ j → zput M (46 + 4 * p + 1) v j = M j := fun j hj => zput_ne (by omega)
  have o : ∀ q, q ≠ b + 2 → zset σ (b + 2) p v q = σ q := fun q hq => zset_o hq
  refine ⟨?_, ?_, ?_, ?_, ?_, ?_, ?_, ?_, ?_, ?_, ?_, ?_, ?_⟩
  · rw [o _ (by omega), e 0 (by omega)]; exact h.n0
  · rw [o _ (by omega), e 3 (by omega)]; exact h.n3
  · intro q p0 p1; rw [e 3 (by omega)] at p1; rw [o _ (by omega), zput_ne (by omega)]; exact h.pl q p0 p1
  · intro q p0 p1
    rw [e 3 (by omega)] at p1
    by_cases c : q = p
    · rw [c, zset_eq, zput_eq]
    · rw [zset_f c, zput_ne (by omega)]; exact h.se q p0 p1
  · intro j j0 j1; rw [o _ (by omega), e _ (by omega)]; exact h.ex j j0 j1
  · rw [o _ (by omega), h.ha]; exact zors_eq (e 3 (by omega)).symm (fun t t0 t1 => by rw [zput_ne (by omega)])
  · rw [o _ (by omega), h.ou]; exact zors_eq (e 3 (by omega)).symm (fun t t0 t1 => by rw [zput_ne (by omega)])
  · rw [o _ (by omega), e 8 (by omega)]; exact h.n8
  · rw [o _ (by omega), e 9 (by omega)]; exact h.n9
  · rw [o _ (by omega), e 10 (by omega)]; exact h.n10
  · exact (h.we.out (o _ (by omega)) (o _ (by omega))).m (fun j hj => e j (by omega))
  · exact (h.mo.out (fun q q0 q1 => o _ (by omega))).m hI.m4.2 (fun j hj => e j (by omega))
  · exact (h.lo.out (o _ (by omega)) (o _ (by omega))).m hI.m11.2 (fun j hj => e j (by omega))
/-- a hat goes on or off (i = 4, w = 2), or a member goes out or in (i = 5, w = 3) -/
theorem CoN.bit {σ : zMem} {b p v i w : Int} {M : Int → Int} (h : CoN σ b M) (hI : zInv M) (hp : 0 ≤ p ∧ p < M 3) (hv : v = 0 ∨ v = 1) (hi : (i = 4 ∧ w = 2) ∨ (i = 5 ∧ w = 3)) : CoN (zset σ b i (qWith (σ b i) p v)) b (zput M (46 + 4 * p + w) v) := by
  have hm3 := hI.m3
  have e : ∀ j, j < 46 ∨ 74 ≤ j → zput M (46 + 4 * p + w) v j = M j := fun j hj => zput_ne (by omega)
  have c : ∀ j, j < 4 ∨ 5 < j → zset σ b i (qWith (σ b i) p v) b j = σ b j := fun j hj => zset_f (by omega)
  have o : ∀ q, q ≠ b → zset σ b i (qWith (σ b i) p v) q = σ q := fun q hq => zset_o hq
  have hf2 : ∀ t, 0 ≤ t → t < M 3 → M (46 + 4 * t + 2) = 0 ∨ M (46 + 4 * t + 2) = 1 := fun t t0 t1 => by have := hI.U (p := t) ⟨t0, by omega⟩; omega
  have hf3 : ∀ t, 0 ≤ t → t < M 3 → M (46 + 4 * t + 3) = 0 ∨ M (46 + 4 * t + 3) = 1 := fun t t0 t1 => by have := hI.U (p := t) ⟨t0, by omega⟩; omega
  refine ⟨?_, ?_, ?_, ?_, ?_, ?_, ?_, ?_, ?_, ?_, ?_, ?_, ?_⟩
  · rw [c 0 (by omega), e 0 (by omega)]; exact h.n0
  · rw [c 1 (by omega), e 3 (by omega)]; exact h.n3
  · intro q p0 p1; rw [e 3 (by omega)] at p1; rw [o _ (by omega), zput_ne (by omega)]; exact h.pl q p0 p1
  · intro q p0 p1; rw [e 3 (by omega)] at p1; rw [o _ (by omega), zput_ne (by omega)]; exact h.se q p0 p1
  · intro j j0 j1; rw [o _ (by omega), e _ (by omega)]; exact h.ex j j0 j1
  · rcases hi with ⟨z1, z2⟩ | ⟨z1, z2⟩ <;> subst z1 <;> subst z2
    · rw [zset_eq, h.ha]
      unfold qHats
      rw [e 3 (by omega)]
      refine qWith_zors ⟨hm3.1, Int.le_refl _, by omega, by omega⟩ ⟨hp.1, hp.2, by omega⟩ hf2 hv (fun t t0 t1 => ?_)
      by_cases z : t = p
      · rw [if_pos z, z, zput_eq]
      · rw [if_neg z, zput_ne (by omega)]
    · rw [zset_f (by decide), h.ha]; exact zors_eq (e 3 (by omega)).symm (fun t t0 t1 => by rw [zput_ne (by omega)])
  · rcases hi with ⟨z1, z2⟩ | ⟨z1, z2⟩ <;> subst z1 <;> subst z2
    · rw [zset_f (by decide), h.ou]; exact zors_eq (e 3 (by omega)).symm (fun t t0 t1 => by rw [zput_ne (by omega)])
    · rw [zset_eq, h.ou]
      unfold qOuts
      rw [e 3 (by omega)]
      refine qWith_zors ⟨hm3.1, Int.le_refl _, by omega, by omega⟩ ⟨hp.1, hp.2, by omega⟩ hf3 hv (fun t t0 t1 => ?_)
      by_cases z : t = p
      · rw [if_pos z, z, zput_eq]
      · rw [if_neg z, zput_ne (by omega)]
  · rw [c 7 (by omega), e 8 (by omega)]; exact h.n8
  · rw [c 8 (by omega), e 9 (by omega)]; exact h.n9
  · rw [c 9 (by omega), e 10 (by omega)]; exact h.n10
  · exact (h.we.out (o _ (by omega)) (o _ (by omega))).m (fun j hj => e j (by omega))
  · exact (h.mo.out (fun q q0 q1 => o _ (by omega))).m hI.m4.2 (fun j hj => e j (by omega))
  · exact (h.lo.out (o _ (by omega)) (o _ (by omega))).m hI.m11.2 (fun j hj => e j (by omega))
/-- who is for a motion (w = 3), or its state (w = 4) -/
theorem MoR.col {σ : zMem} {b k v w : Int} {M : Int → Int} (h : MoR σ b M) (hI : zInv M) (hk : 0 ≤ k ∧ k < M 4) (hw : w = 3 ∨ w = 4) : MoR (zset σ (b + (w + 1)) k v) b (zput M (74 + 5 * k + w) v) := by
  have hm4 := hI.m4
  have o : ∀ q, q ≠ b + (w + 1) → zset σ (b + (w + 1)) k v q = σ q := fun q hq => zset_o hq
  refine ⟨by rw [o _ (by omega), zput_ne (by omega)]; exact h.1, fun t t0 t1 => ?_, fun j j0 j1 => by rw [o _ (by omega), zput_ne (by omega)]; exact h.2.2 j j0 j1⟩
  rw [zput_ne (by omega)] at t1
  obtain ⟨a1, a2, a3, a4, a5⟩ := h.2.1 t t0 t1
  refine ⟨by rw [o _ (by omega), zput_ne (by omega)]; exact a1, by rw [o _ (by omega), zput_ne (by omega)]; exact a2, by rw [o _ (by omega), zput_ne (by omega)]; exact a3, ?_, ?_⟩
  · rcases hw with z | z <;> subst z
    · by_cases c : t = k
      · rw [c]; show zset σ (b + 4) k v (b + 4) k = _; rw [zset_eq, zput_eq]
      · show zset σ (b + 4) k v (b + 4) t = _; rw [zset_f c, zput_ne (by omega)]; exact a4
    · rw [o _ (by omega), zput_ne (by omega)]; exact a4
  · rcases hw with z | z <;> subst z
    · rw [o _ (by omega), zput_ne (by omega)]; exact a5
    · by_cases c : t = k
      · rw [c]; show zset σ (b + 5) k v (b + 5) k = _; rw [zset_eq, zput_eq]
      · show zset σ (b + 5) k v (b + 5) t = _; rw [zset_f c, zput_ne (by omega)]; exact a5
theorem CoN.col {σ : zMem} {b k v w : Int} {M : Int → Int} (h : CoN σ b M) (hI : zInv M) (hk : 0 ≤ k ∧ k < M 4) (hw : w = 3 ∨ w = 4) : CoN (zset σ (b + 8 + (w + 1)) k v) b (zput M (74 + 5 * k + w) v) := by
  have hm4 := hI.m4
  exact h.mot hI (fun i hi => zset_o (by omega)) (fun j hj => zput_ne (by omega)) (h.mo.col hI hk hw)
theorem CoN.pap {σ : zMem} {b t v : Int} {M : Int → Int} (h : CoN σ b M) (hI : zInv M) (ht : 0 ≤ t ∧ t < 12) : CoN (zset σ (b + 8 + 6) t v) b (zput M (114 + t) v) :=
  h.mot hI (fun i hi => zset_o (by omega)) (fun j hj => zput_ne (by omega)) (h.mo.pap hI ht)
/-- an act has been done: the row was M, is M' now, and M is remembered -/
def zActed (lay : zLay) (x : Int) (C0 σ : zMem) (n : Int) (A : Int → Int → Int) (M M' : Int → Int) (s : zMem) : Prop := CoN s (0 + 2) M' ∧ s (0 + 2) 10 = σ (0 + 2) 10 ∧ PaR lay x C0 s (if n = 12 then 12 else n + 1) (qPast n A M) ∧ (∀ i, ¬ (57 ≤ i ∧ i < 273) → ¬ (2 ≤ i ∧ i < 20) → i ≠ 0 → s i = σ i) ∧ ∀ j, j ≠ 8 → j ≠ 9 → s 0 j = σ 0 j
theorem zActed.mk {lay : zLay} {x : Int} {C0 σ s1 s : zMem} {n : Int} {A : Int → Int → Int} {M M' : Int → Int} (h : zActs σ s1 ∧ PaR lay x C0 s1 (if n = 12 then 12 else n + 1) (qPast n A M)) (ho : ∀ i, ¬ (2 ≤ i ∧ i < 20) → s i = s1 i) (h10 : s (0 + 2) 10 = s1 (0 + 2) 10) (hN : CoN s (0 + 2) M') : zActed lay x C0 σ n A M M' s := by
  have e0 := ho 0 (by omega)
  refine ⟨hN, ?_, h.2.out (fun i i0 i1 => ho i (by omega)) (by rw [e0]) (by rw [e0]), fun i i0 i1 i2 => by rw [ho i i1]; exact h.1.1 i i0 i2, fun j j8 j9 => by rw [e0]; exact h.1.2 j j8 j9⟩
  rw [h10, h.1.1 (0 + 2) (by omega) (by omega)]
theorem zActs.N {σ s : zMem} {M : Int → Int} (h : zActs σ s) (hN : CoN σ (0 + 2) M) : CoN s (0 + 2) M := hN.out (fun i i0 i1 _ _ => h.1 _ (by omega) (by omega))
