/-! The other calls: hours, the tape, the seed, acts undone, the image. -/
theorem CoN.agr {s : zMem} {b : Int} {M M' : Int → Int} (h : CoN s b M) (hI : zInv M) (e : ∀ j, 0 ≤ j → j < 426 → M' j = M j) : CoN s b M' := by
  have m3 := hI.m3
  have m4 := hI.m4
  have m11 := hI.m11
  exact h.of m3.2 rfl rfl rfl rfl (fun j hj => e j (by omega) (by omega)) (h.we.m (fun j hj => e j (by omega) (by omega))) (h.mo.m m4.2 (fun j hj => e j (by omega) (by omega))) (h.lo.m m11.2 (fun j hj => e j (by omega) (by omega)))
theorem CoL.agr {lay : zLay} {x p : Int} {C : zMem} {M M' : Int → Int} (h : CoL lay x C p M) (hI : zInv M) (e : ∀ j, 0 ≤ j → j < 826 → M' j = M j) : CoL lay x C p M' := by
  have h2 := hI.s 2 rfl (by omega)
  have e1 := e 1 (by decide) (by decide)
  have e2 := e 2 (by decide) (by decide)
  rcases h with ⟨z1, z2⟩ | ⟨z1, n, hL⟩
  · exact Or.inl ⟨by rw [e1]; exact z1, z2⟩
  · refine Or.inr ⟨by rw [e1]; exact z1, n, hL.A, hL.F, hL.B, by rw [e1]; exact hL.n1, fun T hT F hF => ?_⟩
    rw [e2] at hT ⊢
    exact hL.S T (fun i i0 i1 => by rw [hT i i0 i1]; exact e _ (by omega) (by omega)) F hF
theorem CoR.agr {lay : zLay} {x b : Int} {C s : zMem} {M M' : Int → Int} (h : CoR lay x C s b M) (hI : zInv M) (e : ∀ j, 0 ≤ j → j < 826 → M' j = M j) : CoR lay x C s b M' :=
  ⟨h.1.agr hI (fun j j0 j1 => e j j0 (by omega)), h.2.agr hI e⟩
theorem zOC.agr {M M' : Int → Int} (h : zOC M) (e : ∀ j, 0 ≤ j → j < 826 → M' j = M j) : zOC M' := by
  have hm3 := h.I.m3
  have hm4 := h.I.m4
  refine ⟨⟨⟨fun j j0 j1 => by rw [e j j0 (by omega)]; exact h.ol.1.1 j j0 j1, fun q q0 q1 => ?_⟩, fun i i0 i1 => by rw [e _ (by omega) (by omega)]; exact h.ol.2 i i0 i1⟩, fun a b a0 a1 b0 b1 => ?_, fun k k0 k1 => ?_, fun t t0 t1 => ?_⟩
  · rw [zsum_congr (fun t t0 t1 => e (13 + 5 * q + t) (by omega) (by omega))]
    exact h.ol.1.2 q q0 q1
  · rw [e _ (by omega) (by omega), e _ (by omega) (by omega)]
    exact h.pap a b a0 a1 b0 b1
  · rw [e 4 (by decide) (by decide)] at k1
    rw [e _ (by omega) (by omega), e 3 (by decide) (by decide)]
    exact h.mv k k0 k1
  · rw [e _ (by omega) (by omega), e 4 (by decide) (by decide)]
    exact h.pa t t0 t1
theorem zRem.f25 {σ τ : zMem} {w : Int} (h : zRem σ τ) : zRem σ (zset τ 0 25 w) := by
  have f : ∀ j, j ≠ 25 → zset τ 0 25 w 0 j = τ 0 j := fun j hj => zset_f hj
  have g : ∀ o, o ≠ 0 → zset τ 0 25 w o = τ o := fun o ho => zset_o ho
  have ea : qAct (zset τ 0 25 w) = qAct τ := by unfold qAct; rw [g 1 (by decide), g 4 (by decide)]
  exact ⟨by rw [f 3 (by decide)]; exact h.f3, by rw [f 8 (by decide)]; exact h.f8, by rw [f 12 (by decide)]; exact h.f12, by rw [f 6 (by decide)]; exact h.f6, by rw [g 2 (by decide)]; exact h.r2, by rw [g 5 (by decide)]; exact h.r5, by rw [ea]; exact h.ac, h.js.set (by decide) (fun _ => by unfold zNs; omega)⟩
/-- only the row of the council now has changed -/
theorem Rel.one {lay : zLay} {x : Int} {C s q σ τ : zMem} (h : Rel lay x C s σ) (hn : CoR lay x C q (0 + 2) (τ 1)) (hoc : zOC (τ 1)) (e0 : ∀ j, j ≠ 0 → τ 0 j = σ 0 j) (eo : ∀ o, o ≠ 0 → o ≠ 1 → τ o = σ o) (e1 : ∀ j, j < 0 ∨ 426 ≤ j → τ 1 j = σ 1 j) (hJ : zJs τ) (hq : ∀ i, (i = 0 ∨ i = 1 ∨ (38 ≤ i ∧ i < 56) ∨ (57 ≤ i ∧ i < 273)) → q i = s i) : Rel lay x C q τ := by
  have q0 := hq 0 (by omega)
  have q1 := hq 1 (by omega)
  have ea : qAct τ = qAct σ := by
    funext i j
    unfold qAct
    by_cases z : 0 ≤ j ∧ j < 426
    · rw [if_pos z, if_pos z, eo 4 (by decide) (by decide)]
    · rw [if_neg z, if_neg z, e1 j (by omega)]
  have f3 := e0 3 (by decide)
  have f6 := e0 6 (by decide)
  have f8 := e0 8 (by decide)
  have f12 := e0 12 (by decide)
  refine ⟨hn, hoc, by rw [q0, f3]; exact h.k0, by rw [f3]; exact h.k1, fun z => ?_, ?_, by rw [f6, ea]; exact h.po, by rw [q1, eo 5 (by decide) (by decide)]; exact h.t1, by rw [q0, f8]; exact h.t2, by rw [q0, f12]; exact h.t3, ?_, hJ⟩
  · rw [f3] at z
    rw [eo 2 (by decide) (by decide)]
    exact ⟨(h.kp z).1.out (fun i i0 i1 => hq i (by omega)), (h.kp z).2⟩
  · rw [f6, ea]
    exact h.pa.out (fun i i0 i1 => hq i (by omega)) (by rw [q0]) (by rw [q0])
  · unfold zTape
    rw [f8, eo 5 (by decide) (by decide)]
    exact h.tb
section ZMORE
variable {G : zG} {lay : zLay} {x y nx : Int} {C s σ : zMem}
theorem p_seed (hw9 : Wd lay x y nx C σ) (hr : Rel lay x C s σ) {n : Int} : zPair G lay x y nx C s σ KX11_seed 1 [zI n] (0, 0) KX12_seed 1 zEb zEb (fun k _ => k = 0) := by
  have hR := hr.now
  have hM := hr.oc
  have hJ : zJs (zset (zset σ 0 0 0) 1 12 n) := (hr.js.set (by decide) (fun _ => Or.inl rfl)).set (by decide) (fun z => absurd z (by decide))
  have e1 : zset (zset σ 0 0 0) 1 12 n 1 = zput (σ 1) 12 n := by rw [zset_row, zset_o (by decide)]
  refine ⟨0, _, _, zAc σ (zset (zset σ 0 0 0) 1 12 n) 0, Or.inl rfl, fun _ => rfl, rfl, (c_X11_seed hw9.T hR.1).imp (zIm.trans (?_ : zIm _ (zY' (some (zI _)) (fun q C' => C' = C ∧ q = zset s (0 + 2 + 4) 3 n) lay nx x)) ((zEc.Y rfl).trans (zEc.eg hw9 hr (fun _ q C' h => ?_)))), fun lay' nx' C0 hRl hSl => (m_X12_seed hRl).imp (zRf.A (fun _ => ⟨rfl, by rw [zset_o (by decide), zset_eq]⟩) (fun z => absurd rfl z))⟩
  · rintro o l c m ⟨g1, g2, g3, g4⟩
    exact ⟨_, _, ⟨rfl, rfl⟩, g1, g2, g3, g4⟩
  · obtain ⟨g1, g2⟩ := h
    subst g1
    subst g2
    refine ⟨zStk.refl _ _, hr.one ?_ (by rw [e1]; exact hM.seed) (fun j hj => by rw [zset_o (by decide), zset_f hj]) (fun o o0 o1 => by rw [zset_o o1, zset_o o0]) (fun j hj => by rw [e1, zput_ne (by omega)]) hJ (fun i hi => zset_o (by omega))⟩
    rw [e1]
    exact ⟨hR.1.seed hM.I, by rw [zset_o (by decide)]; exact hR.2.m (zput_ne (by decide)) (zput_ne (by decide)) (fun i i0 => zput_ne (by omega))⟩
theorem p_hours (hw9 : Wd lay x y nx C σ) (hr : Rel lay x C s σ) {n : Int} (hn : zin n) : zPair G lay x y nx C s σ KX11_hours 8 [zI n] (1, 6) KX12_hours 70 zEa zEa (fun _ _ => True) := by
  have hR := hr.now
  have hM := hr.oc
  have hb6 := hr.pa.2.2.1
  have hJ1 : zJs (zset σ 0 0 1) := hr.js.set (by decide) (fun _ => Or.inl rfl)
  obtain ⟨r, r1, r0⟩ := zRem.rem hb6 hr.js
  refine ⟨(if 1 ≤ n ∧ n ≤ 60 then (0 : Int) else 1), (qPassN (σ 1) n).2.2, (if 1 ≤ n ∧ n ≤ 60 then (qPassN (σ 1) n).2.2 else 0), fun τ => (1 ≤ n ∧ n ≤ 60 → zScr (zM (zset (qRem (zset σ 0 0 0)) 0 25 (qPassN (σ 1) n).2.1) (qPassN (σ 1) n).1) τ) ∧ (¬ (1 ≤ n ∧ n ≤ 60) → zScr (zset σ 0 0 1) τ), ite_012 _, fun z => (if_pos (ite_h z)).symm, trivial, (c_X11_hours hw9.T hR hM hr.pa hn).imp ?_, fun lay' nx' C0 hRl hSl => (m_X12_hours hRl hSl hr.js hM.ol hn hb6).imp ?_⟩
  · rintro o l c m (⟨h1, s', C', ⟨a1, a2, a3, a4, a5, a6, a7⟩, g1, g2, g3, g4⟩ | ⟨h1, h2, h3, h4, h5⟩)
    · subst g2
      subst g4
      obtain ⟨w1, w2⟩ := hw9.stk hR.2 a4
      refine ⟨s', C', g3, fun _ _ => rfl, Int.le_refl _, by rw [g1, if_pos h1]; rfl, w1, fun o _ ho => w2 o ho, fun τ hτ => ?_⟩
      have ht := hτ.1 h1
      have t1 : τ 1 = (qPassN (σ 1) n).1 := by rw [ht.r1]; exact if_pos rfl
      have hz : zRem σ (zM (zset (qRem (zset σ 0 0 0)) 0 25 (qPassN (σ 1) n).2.1) (qPassN (σ 1) n).1) := (r.f25 (w := (qPassN (σ 1) n).2.1)).row1 (fun o ho => if_neg ho) (fun j hj => by rw [show zM (zset (qRem (zset σ 0 0 0)) 0 25 (qPassN (σ 1) n).2.1) (qPassN (σ 1) n).1 1 = (qPassN (σ 1) n).1 from if_pos rfl, zset_o (by decide), r1]; exact qPassN_f hM.ol (by omega) hj) ((r.f25 (w := (qPassN (σ 1) n).2.1)).js.m _)
      exact hr.act (by rw [t1]; exact a1) (by rw [t1]; exact a2) a4 a5 a6 a7 (hz.scr ht)
    · subst h3
      subst h5
      refine ⟨s, C, h4, fun _ _ => rfl, Int.le_refl _, by rw [h2, if_neg h1]; rfl, hw9, fun _ _ _ => rfl, fun τ hτ => hr.ref (k := 1) ?_⟩
      exact (hτ.2 h1).x.z
  · rintro o l c m ⟨τ, h0, h1, h2, h3, h4⟩
    refine ⟨τ, h3, h2, h4, h1, ?_, fun z => by rw [if_pos z] at h0; exact h0, fun z => by rw [if_neg z] at h0; exact h0⟩
    by_cases z : 1 ≤ n ∧ n ≤ 60
    · rw [if_pos z] at h0
      rw [if_pos z, h0.1 0 (by unfold zNs; omega)]
      show (zset (qRem (zset σ 0 0 0)) 0 25 (qPassN (σ 1) n).2.1) 0 0 = 0
      rw [zset_f (by decide)]
      exact r0
    · rw [if_neg z] at h0
      rw [if_neg z, h0.1 0 (by unfold zNs; omega)]
      exact zset_eq
end ZMORE
