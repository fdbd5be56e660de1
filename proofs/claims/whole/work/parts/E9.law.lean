/-! A law, of both. -/
theorem zBd_12 : zBd 1 = (-1, 12) ∧ zBd 2 = (0, 400) := ⟨rfl, rfl⟩
section ZLAW
variable {G : zG} {lay : zLay} {x y nx : Int} {C s σ : zMem}
theorem p_law (hw9 : Wd lay x y nx C σ) (hr : Rel lay x C s σ) (hf : ∀ o, nx ≤ o → (lay o).1 = 0) : zPair G lay x y nx C s σ KX11_law 62 [] (7, 473) KX12_law 65 zEa zEa (fun _ _ => True) := by
  have hM := hr.oc
  have ht := hr.tb
  have hR := hr.now
  have hd := hw9.d
  have hyn := hw9.n
  have hx0 := hw9.T.1
  have hc := c_X11_law (G := G) (nx := nx) hw9.T hw9.S (by omega) hR hM (by rw [hr.t2]; exact ht.1) (by rw [hr.t1]; exact ht.2)
  unfold zLwQ at hc
  rw [hr.t1, hr.t2] at hc
  have h01 : qW01 (qLawR σ).2.1 := qLaw_01 ⟨hr.js.2.2.2.1, hr.js.2.2.2.2⟩
  generalize hP : qLawP (σ 5) (σ 0 8) = P at hc
  have ro : ∀ o, o ≠ 0 → o ≠ 1 → qLawS σ P.1 P.2 o = σ o := fun o o0 o1 => by
    unfold qLawS
    split
    · rw [zset_o o0, zRow_o o1, zset_o o0, pS_o o0, zLw_o o0, qBeg_o o0]
    · rw [zset_o o0, pS_o o0, zLw_o o0, qBeg_o o0]
  have rb : ∀ j, j ≠ 0 → j ≠ 6 → j ≠ 11 → j ≠ 12 → qLawS σ P.1 P.2 0 j = zLw (qBeg σ) (qLawR σ).2.1 0 j := fun j j0 j6 j1 j2 => by
    unfold qLawS
    split
    · rw [zset_f j6, zRow_o (by decide), zset_f j0, pS_f j1 j2]
    · rw [zset_f j0, pS_f j1 j2]
  have rg : ∀ j, (j < 8 ∨ (13 < j ∧ j < 17)) → j ≠ 0 → j ≠ 6 → qLawS σ P.1 P.2 0 j = σ 0 j := fun j h j0 j6 => by
    rw [rb j j0 j6 (by omega) (by omega), zLw_f (by omega), qBeg_f (by omega)]
  have r8 : qLawS σ P.1 P.2 0 8 = 0 := by
    rw [rb 8 (by decide) (by decide) (by decide) (by decide), zLw_f (by decide)]
    simp [qBeg, zset_at]
  have r12 : qLawS σ P.1 P.2 0 12 = P.2 := by
    unfold qLawS
    split
    · rw [zset_f (by decide), zRow_o (by decide), zset_f (by decide), pS_12]
    · rw [zset_f (by decide), pS_12]
  have r18 : qLawS σ P.1 P.2 0 18 = (qLawR σ).2.1.2.1 := rb 18 (by decide) (by decide) (by decide) (by decide)
  have r19 : qLawS σ P.1 P.2 0 19 = (qLawR σ).2.1.2.2 := rb 19 (by decide) (by decide) (by decide) (by decide)
  have rJ : zJs (qLawS σ P.1 P.2) := by
    unfold zJs
    rw [ro 6 (by decide) (by decide), rg 15 (by omega) (by decide) (by decide), rg 16 (by omega) (by decide) (by decide), r18, r19]
    exact ⟨hr.js.1, hr.js.2.1, hr.js.2.2.1, h01.1, h01.2⟩
  have rT : zTape (qLawS σ P.1 P.2) := ⟨by rw [r8]; exact ⟨by decide, by decide⟩, by rw [ro 5 (by decide) (by decide)]; exact ht.2⟩
  have r00 : qLawS σ P.1 P.2 0 0 = if P.2 = -1 then 0 else 1 := by
    unfold qLawS
    split
    · rename_i z
      rw [zset_f (by decide), zRow_o (by decide)]; exact zset_eq
    · rename_i z
      exact zset_eq
  refine ⟨if P.2 = -1 then 0 else 1, P.1, (if P.2 = -1 then P.1 else 0), fun τ => τ = qLawS σ P.1 P.2, ite_012 _, fun z => (if_pos (ite_h z)).symm, trivial, hc.imp ?_, fun lay' nx' C0 hRl hSl => (m_X12_law hRl hSl ht hr.js).imp ?_⟩
  · rintro o l c n ⟨q, C', g4, g5, gl, gc, g2, a2, a1, a3, a4, a5, a6⟩
    have hin : ∀ i, inT i → x + i < nx := fun i hi => by unfold inT at hi; omega
    have wT : TopL l x := ⟨hx0, fun i hi => by rw [gl _ (hin i hi)]; exact hw9.T.2 i hi⟩
    have hy0 := hw9.R.1
    have wR : RefL l y := ⟨hy0, fun i i0 i1 => by rw [gl _ (by omega)]; exact hw9.R.2 i i0 i1⟩
    have wS : TxS l C' := fun t p hp => by
      obtain ⟨b1, b2, b3⟩ := hw9.S t p hp
      exact ⟨by rw [gl _ (by omega)]; exact b1, by rw [gl _ (by omega)]; exact b2, fun i hi => by rw [gc _ (by omega)]; exact b3 i hi⟩
    have wh : ∀ o, y ≤ o → o < y + 12 → C' o = rC y σ C' o := fun o o0 o1 => by
      rw [gc o (by omega), hw9.h o o0 o1]; exact rC_in ⟨o0, o1⟩
    have gL : ∀ p M, CoL lay x C p M → CoL l x C' p M := fun p M h => h.gr gl gc hf
    refine ⟨q, C', g4, gl, by omega, ?_, ⟨wT, wR, hd, by omega, wS, wh⟩, fun o o0 _ => gc o o0, fun τ hτ => ?_⟩
    · rw [g2]
      by_cases z : P.2 = -1
      · rw [if_pos z, if_pos z]; rfl
      · rw [if_neg z, if_neg z]; rfl
    · subst hτ
      have kpt : qLawS σ P.1 P.2 0 3 = 1 → CoR l x C' q 38 (qLawS σ P.1 P.2 2) ∧ zOC (qLawS σ P.1 P.2 2) := by
        intro w
        rw [rg 3 (by omega) (by decide) (by decide)] at w
        rw [ro 2 (by decide) (by decide)]
        obtain ⟨b1, b2⟩ := hr.kp w
        have b3 := b1.out (s := q) (fun i i0 i1 => a4 i (by omega) (by omega) (by omega) (by omega))
        exact ⟨⟨b3.1, gL _ _ b3.2⟩, b2⟩
      by_cases hz : P.2 = -1
      · obtain ⟨b1, b2, b3, b4⟩ := a5 hz
        have t1 : qLawS σ P.1 P.2 1 = qTx (σ 0 8) (σ 5) (zput (zput (σ 1) 1 P.1) 2 (σ 0 8)) := by
          unfold qLawS
          rw [if_pos hz, zset_o (by decide)]; exact zRow_e
        have t6 : qLawS σ P.1 P.2 0 6 = 0 := by
          unfold qLawS
          rw [if_pos hz]; exact zset_eq
        have hn : 0 ≤ P.1 ∧ P.1 ≤ 12 := by
          rcases b3.2 with ⟨c1, c2⟩ | ⟨c1, n9, c2⟩
          · exact absurd c2 (by have := b4; omega)
          · have e1 : qTx (σ 0 8) (σ 5) (zput (zput (σ 1) 1 P.1) 2 (σ 0 8)) 1 = P.1 := by rw [qTx_lo (by decide), zput_ne (by decide), zput_eq]
            have d1 := c2.n1
            have d2 := c2.B.1
            rw [e1] at c1 d1
            omega
        have o1 : zOC (zput (zput (σ 1) 1 P.1) 2 (σ 0 8)) := by
          have h1 := hM.m (hM.ol.put (k := 1) (v := P.1) (Or.inl (by decide)) (by decide) (fun _ _ => Or.inr (by rw [zBd_12.1]; exact (⟨by omega, hn.2⟩ : (-1 : Int) ≤ P.1 ∧ P.1 ≤ 12)))) (fun j hj => zput_ne (by omega))
          exact h1.m (h1.ol.put (k := 2) (v := σ 0 8) (Or.inl (by decide)) (by decide) (fun _ _ => Or.inr (by rw [zBd_12.2]; exact (⟨ht.1.1, ht.1.2⟩ : (0 : Int) ≤ σ 0 8 ∧ σ 0 8 ≤ 400)))) (fun j hj => zput_ne (by omega))
        have o2 : zOC (qTx (σ 0 8) (σ 5) (zput (zput (σ 1) 1 P.1) 2 (σ 0 8))) := by
          have hlo : ∀ j, j < 426 → qTx (σ 0 8) (σ 5) (zput (zput (σ 1) 1 P.1) 2 (σ 0 8)) j = zput (zput (σ 1) 1 P.1) 2 (σ 0 8) j := fun j hj => qTx_lo hj
          refine o1.m ⟨⟨fun j j0 j1 => by rw [hlo j j1]; exact o1.ol.1.1 j j0 j1, fun a a0 a1 => ?_⟩, fun i i0 i1 => ?_⟩ (fun j hj => hlo j (by omega))
          · rw [zsum_congr (fun t t0 t1 => hlo (13 + 5 * a + t) (by omega))]
            exact o1.ol.1.2 a a0 a1
          · unfold qTx
            by_cases w : 426 ≤ 426 + i ∧ 426 + i < 426 + σ 0 8
            · rw [if_pos w]; exact ht.2 _ (by omega) (by omega)
            · rw [if_neg w]; exact o1.ol.2 i i0 i1
        refine ⟨by rw [t1]; exact b3, by rw [t1]; exact o2, by rw [a3 6 (by decide) (by decide) (by decide) (by decide), rg 3 (by omega) (by decide) (by decide)]; exact hr.k0, by rw [rg 3 (by omega) (by decide) (by decide)]; exact hr.k1, kpt, by rw [t6]; exact ⟨by rw [b1]; exact ⟨by decide, by decide⟩, b2, ⟨by decide, by decide⟩, fun i i0 i1 => by omega⟩, fun i i0 i1 => by rw [t6] at i1; omega, by rw [a4 1 (by decide) (by decide) (by decide) (by decide), ro 5 (by decide) (by decide)]; exact hr.t1, by rw [a1, r8], by rw [a2, r12], rT, rJ⟩
      · obtain ⟨b1, b2, b3⟩ := a6 hz
        have t1 : qLawS σ P.1 P.2 1 = σ 1 := by
          unfold qLawS
          rw [if_neg hz, zset_o (by decide), pS_o (by decide), zLw_o (by decide), qBeg_o (by decide)]
        have t6 : qLawS σ P.1 P.2 0 6 = σ 0 6 := by
          unfold qLawS
          rw [if_neg hz, zset_f (by decide), pS_f (by decide) (by decide), zLw_f (by decide), qBeg_f (by omega)]
        have ea : qAct (qLawS σ P.1 P.2) = qAct σ := by unfold qAct; rw [t1, ro 4 (by decide) (by decide)]
        have n1 := hR.out (s := q) (fun i i0 i1 => by
          by_cases e : i = 2
          · rw [e]; exact b1
          · exact a4 i (by omega) e (by omega) (by omega))
        have p1 := hr.pa.out (s := q) (fun i i0 i1 => a4 i (by omega) (by omega) (by omega) (by omega)) b2 b3
        refine ⟨by rw [t1]; exact ⟨n1.1, gL _ _ n1.2⟩, by rw [t1]; exact hM, by rw [a3 6 (by decide) (by decide) (by decide) (by decide), rg 3 (by omega) (by decide) (by decide)]; exact hr.k0, by rw [rg 3 (by omega) (by decide) (by decide)]; exact hr.k1, kpt, by rw [t6, ea]; exact p1.C gL, by rw [t6, ea]; exact hr.po, by rw [a4 1 (by decide) (by decide) (by decide) (by decide), ro 5 (by decide) (by decide)]; exact hr.t1, by rw [a1, r8], by rw [a2, r12], rT, rJ⟩
  · rw [hP]
    rintro o l c n ⟨g1, g2, g3, g4⟩
    exact ⟨_, g3, g2, g4, g1, r00, rfl⟩
end ZLAW
