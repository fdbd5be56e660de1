/-! Cuffs, a coast, a law: the tape is read, and is at its beginning then. -/
theorem zTw.eg {P : Prop} {lay : zLay} {x y nx : Int} {C s σ : zMem} {k v : Int} {E1 E2 : String} {R : zMem → zMem → Prop} {P' : zMem → Prop} (hw : Wd lay x y nx C σ) (hr : Rel lay x C s σ) (h0 : P → k = 0) (h1 : ¬ P → k = 1) (he : ∀ q C', R q C' → zStk C (s (0 + 2) 10) C' ∧ ∀ τ, P' τ → Rel lay x C' q τ) : zIm (zTw P (some (zI v)) E1 R lay nx x) (zEg lay x y nx C σ k v E1 E2 P') := by
  rintro o l c n ⟨s', C', g1, g2, g3, g4, g5⟩
  subst g3
  subst g5
  obtain ⟨a1, a2⟩ := he s' C' g1
  obtain ⟨w1, w2⟩ := hw.stk hr.now.2 a1
  refine ⟨s', C', g4, fun _ _ => rfl, Int.le_refl _, ?_, w1, fun o _ ho => w2 o ho, a2⟩
  rcases g2 with ⟨p, e⟩ | ⟨p, e⟩
  · rw [e, h0 p]; rfl
  · rw [e, h1 p]; rfl
theorem Rel.heard {lay : zLay} {x k : Int} {C C' s q σ τ : zMem} (h : Rel lay x C s σ) (hq : zRc s C (σ 1) q C') (hτ : zScx (qHrd σ k) τ) : Rel lay x C' q τ := by
  obtain ⟨g1, g2, g3⟩ := hτ
  have f : ∀ j, j = 3 ∨ j = 6 ∨ j = 12 → τ 0 j = σ 0 j := fun j hj => by
    rw [g1 j (by unfold zNs; omega)]
    unfold qHrd
    rw [zset_f (by omega), zset_f (by omega)]
  have f8 : τ 0 8 = 0 := by
    rw [g1 8 (by unfold zNs; omega)]
    unfold qHrd
    rw [zset_f (by decide)]; exact zset_eq
  have fo : ∀ o, 1 ≤ o → o ≤ 5 → τ o = σ o := fun o o1 o5 => by rw [g2 o o1 o5]; exact qHrd_1 (by omega)
  have q0 : ∀ j, j ≠ 1 → q 0 j = s 0 j := fun j hj => by rw [hq.1, zset_f hj]
  refine h.tape (hq.R h.now) hq.2.2 (fun i hi => hq.2.1 i (by omega) (by omega) (by omega)) (fun j hj => q0 j (by omega)) (fun j hj => f j (by omega)) (fun o ho => fo o (by omega) (by omega)) (by rw [hq.2.1 1 (by decide) (by decide) (by decide), fo 5 (by decide) (by decide)]; exact h.t1) (by rw [hq.1, zset_eq, f8]) (by rw [q0 2 (by decide), f 12 (by omega)]; exact h.t3) ⟨by rw [f8]; exact ⟨by decide, by decide⟩, fun k k0 k1 => by rw [fo 5 (by decide) (by decide)]; exact h.tb.2 k k0 k1⟩ g3
theorem zRf.H {lay : zLay} {y nx k v : Int} {C0 σ : zMem} : zIm (zX' (some (zI v)) (zScx (qHrd σ k)) lay C0 nx y) (zRf lay y nx C0 k v (zScx (qHrd σ k))) := by
  rintro o l c n ⟨τ, h0, h1, h2, h3, h4⟩
  refine ⟨τ, h3, h2, h4, h1, ?_, h0⟩
  rw [h0.1 0 (by unfold zNs; omega)]
  exact zset_eq
theorem CoL.gr {lay l : zLay} {x p nx : Int} {C C' : zMem} {M : Int → Int} (h : CoL lay x C p M) (hl : ∀ o, o < nx → l o = lay o) (hc : ∀ o, o < nx → C' o = C o) (hf : ∀ o, nx ≤ o → (lay o).1 = 0) : CoL l x C' p M := by
  rcases h with h | ⟨h, n, h2⟩
  · exact Or.inl h
  · have A := h2.A
    have b : ∀ o k m, lay o = (k + 1, m) → o < nx := fun o k m e => by
      refine Classical.byContradiction (fun z => ?_)
      have := hf o (by omega)
      rw [e] at this
      exact absurd this (by omega)
    have b0 := b p 3 7 A.l0
    have b1 := b _ 99 _ A.l1
    have b2 := b _ 99 _ A.l2
    have b3 := b _ 99 _ A.l3
    have b4 := b _ 99 _ A.l4
    have b5 := b _ 99 _ A.l5
    refine Or.inr ⟨h, n, ?_⟩
    have h3 := h2.cg (C := C') ⟨hc _ b0, hc _ b1, hc _ b2, hc _ b3, hc _ b4⟩
    refine ⟨⟨A.p0, A.n0, A.n1, A.n2, A.n3, A.n4, A.n5, by rw [hl _ b0]; exact A.l0, by rw [hl _ b1]; exact A.l1, by rw [hl _ b2]; exact A.l2, by rw [hl _ b3]; exact A.l3, by rw [hl _ b4]; exact A.l4, by rw [hl _ b5]; exact A.l5, A.nn⟩, h3.F, h3.B, h3.n1, h3.S⟩
section ZMORE3
variable {G : zG} {lay : zLay} {x y nx : Int} {C s σ : zMem}
theorem p_cuffs (hw9 : Wd lay x y nx C σ) (hr : Rel lay x C s σ) {w : Int} (hw : w = 0 ∨ w = 1) : zPair G lay x y nx C s σ KX11_cuffs 8 [zI w] (1, 6) KX12_cuffs 71 zEa zEa (fun _ _ => True) := by
  have hM := hr.oc
  have ht := hr.tb
  refine ⟨qThr1 (qCuffs (σ 5) (σ 1) (σ 0 8)), qCufV (s 1) (σ 1) (s 0 1) w, _, zScx (qHrd σ (qThr1 (qCuffs (σ 5) (σ 1) (σ 0 8)))), qThr1_012 _, fun z => ?_, trivial, (c_X11_cuffs hw9.T hr.now hM (by rw [hr.t2]; exact ht.1) (by rw [hr.t1]; exact ht.2) hw).imp (zTw.eg hw9 hr (by rw [hr.t1, hr.t2]; exact qThr1_t) (by rw [hr.t1, hr.t2]; exact qThr1_f) (fun q C' h => ⟨h.2.2, fun τ hτ => hr.heard h hτ⟩)), fun lay' nx' C0 hRl hSl => (m_X12_cuffs hRl hSl hr.js hM.ol ht hw).imp zRf.H⟩
  rw [zif_t (qThr1_h z), hr.t1, hr.t2]; rfl
theorem p_likely (hw9 : Wd lay x y nx C σ) (hr : Rel lay x C s σ) : zPair G lay x y nx C s σ KX11_likely 8 [] (1, 6) KX12_likely 71 zEa zEa (fun _ _ => True) := by
  have hM := hr.oc
  have ht := hr.tb
  refine ⟨qThr1 (qCuffs (σ 5) (σ 1) (σ 0 8)), (qMax (qWay (s 1) (σ 1) (s 0 1) (-1) 11) (-1) 0 5).1, _, zScx (qHrd σ (qThr1 (qCuffs (σ 5) (σ 1) (σ 0 8)))), qThr1_012 _, fun z => ?_, trivial, (c_X11_likely hw9.T hr.now hM (by rw [hr.t2]; exact ht.1) (by rw [hr.t1]; exact ht.2)).imp (zTw.eg hw9 hr (by rw [hr.t1, hr.t2]; exact qThr1_t) (by rw [hr.t1, hr.t2]; exact qThr1_f) (fun q C' h => ⟨h.2.2, fun τ hτ => hr.heard h hτ⟩)), fun lay' nx' C0 hRl hSl => (m_X12_likely hRl hSl hr.js hM.ol ht).imp zRf.H⟩
  rw [zif_t (qThr1_h z), hr.t1, hr.t2]; rfl
theorem p_ago (hw9 : Wd lay x y nx C σ) (hr : Rel lay x C s σ) {n : Int} (hn : zin n) : zPair G lay x y nx C s σ KX11_ago 8 [zI n] (2, 12) KX12_ago 70 zEa zEa (fun _ _ => True) := by
  have hM := hr.oc
  have ht := hr.tb
  refine ⟨qThr1 (qCuffs (σ 5) (σ 1) (σ 0 8) ∧ 0 ≤ n ∧ n ≤ 11), qAgoV (s 1) (σ 1) (s 0 1) n, _, zScx (qHrd σ (qThr1 (qCuffs (σ 5) (σ 1) (σ 0 8) ∧ 0 ≤ n ∧ n ≤ 11))), qThr1_012 _, fun z => ?_, trivial, (c_X11_ago hw9.T hr.now hM (by rw [hr.t2]; exact ht.1) (by rw [hr.t1]; exact ht.2) hn).imp (zTw.eg hw9 hr (by rw [hr.t1, hr.t2]; exact qThr1_t) (by rw [hr.t1, hr.t2]; exact qThr1_f) (fun q C' h => ⟨h.2.2, fun τ hτ => hr.heard h hτ⟩)), fun lay' nx' C0 hRl hSl => (m_X12_ago hRl hSl hr.js hM.ol ht hn).imp zRf.H⟩
  rw [zif_t (qThr1_h z), hr.t1, hr.t2]; rfl
theorem p_ask (hw9 : Wd lay x y nx C σ) (hr : Rel lay x C s σ) : zPair G lay x y nx C s σ KX11_ask 8 [] (1, 6) KX12_ask 71 zEa zEa (fun _ _ => True) := by
  have hM := hr.oc
  have ht := hr.tb
  refine ⟨qThr1 (qCuffs (σ 5) (σ 1) (σ 0 8)), qAskV (σ 1) (qSkies (qWay (s 1) (σ 1) (s 0 1) (-1) 11)), _, zScx (qHrd σ (qThr1 (qCuffs (σ 5) (σ 1) (σ 0 8)))), qThr1_012 _, fun z => ?_, trivial, (c_X11_ask hw9.T hr.now hM (by rw [hr.t2]; exact ht.1) (by rw [hr.t1]; exact ht.2)).imp (zTw.eg hw9 hr (by rw [hr.t1, hr.t2]; exact qThr1_t) (by rw [hr.t1, hr.t2]; exact qThr1_f) (fun q C' h => ⟨h.2.2, fun τ hτ => hr.heard h hτ⟩)), fun lay' nx' C0 hRl hSl => (m_X12_ask hRl hSl hr.js hM.ol ht).imp zRf.H⟩
  rw [zif_t (qThr1_h z), hr.t1, hr.t2]; rfl
theorem p_coast (hw9 : Wd lay x y nx C σ) (hr : Rel lay x C s σ) : zPair G lay x y nx C s σ KX11_coast 12 [] (1, 6) KX12_coast 64 zEa zEu (fun _ _ => True) := by
  have hM := hr.oc
  have ht := hr.tb
  have hR := hr.now
  have er : qRdC s (σ 1) = qRead (σ 5) (σ 0 8) (σ 1) 0 := by unfold qRdC; rw [hr.t1, hr.t2]
  have hkp : ∀ j, zKp j → (qRead (σ 5) (σ 0 8) (σ 1) 0).2.1 j = σ 1 j := fun j hj => qRead_k ht.1 (fun k k0 k1 => (ht.2 k k0 k1).1) hM.ol.1 hj
  have hc := c_X11_coast (G := G) (nx := nx) hw9.T hw9.S hR hM (by rw [hr.t2]; exact ht.1) (by rw [hr.t1]; exact ht.2)
  generalize hrr : qRead (σ 5) (σ 0 8) (σ 1) 0 = r at er hkp
  rw [er] at hc
  have hT : qCoastT r = 0 ∨ qCoastT r = 1 ∨ qCoastT r = 2 := by
    unfold qCoastT
    (repeat' split) <;> omega
  -- the reference's rows behind it
  have ro : ∀ o, o ≠ 0 → o ≠ 1 → o ≠ 3 → qCoastS σ r o = σ o := fun o o0 o1 o3 => by
    have hb : qCoastR σ r o = σ o := by
      unfold qCoastR
      rw [zset_o o0, pS_o o0]
      show (if o = 1 then _ else qBeg _ o) = _
      rw [if_neg o1, qBeg_o o0, zRow_o o3]
    unfold qCoastS
    split
    · rw [zRow_o o1, hb]
    · rw [zset_o o0, zset_o o1, hb]
  have rb : ∀ j, j ≠ 0 → j ≠ 11 → j ≠ 12 → qCoastR σ r 0 j = qBeg (zRow σ 3 (qcopy (σ 1) (σ 3) 426)) 0 j := fun j j0 j1 j2 => by
    unfold qCoastR
    rw [zset_f j0, pS_f j1 j2]
    rfl
  have rf : ∀ j, j ≠ 0 → j ≠ 6 → j ≠ 11 → j ≠ 12 → qCoastS σ r 0 j = qBeg (zRow σ 3 (qcopy (σ 1) (σ 3) 426)) 0 j := fun j j0 j6 j1 j2 => by
    unfold qCoastS
    split
    · rw [zRow_o (by decide)]; exact rb j j0 j1 j2
    · rw [zset_f j6, zset_o (by decide)]; exact rb j j0 j1 j2
  have rg : ∀ j, (j < 8 ∨ 13 < j) → j ≠ 0 → j ≠ 6 → qCoastS σ r 0 j = σ 0 j := fun j h j0 j6 => by
    rw [rf j j0 j6 (by omega) (by omega), qBeg_f h, zRow_o (by decide)]
  have r8 : qCoastS σ r 0 8 = 0 := by
    rw [rf 8 (by decide) (by decide) (by decide) (by decide)]
    simp [qBeg, zset_at]
  have r12 : qCoastS σ r 0 12 = r.2.2.2 := by
    have : qCoastR σ r 0 12 = r.2.2.2 := by unfold qCoastR; rw [zset_f (by decide), pS_12]
    unfold qCoastS
    split
    · rw [zRow_o (by decide)]; exact this
    · rw [zset_f (by decide), zset_o (by decide)]; exact this
  have r00 : qCoastS σ r 0 0 = qCoastT r := by
    have : qCoastR σ r 0 0 = qCoastT r := by unfold qCoastR; exact zset_eq
    unfold qCoastS
    split
    · rw [zRow_o (by decide)]; exact this
    · rw [zset_f (by decide), zset_o (by decide)]; exact this
  have rR1 : qCoastR σ r 1 = r.2.1 := by unfold qCoastR; rw [zset_o (by decide)]; exact pS_1M
  have rR3 : qCoastR σ r 3 = qcopy (σ 1) (σ 3) 426 := by
    unfold qCoastR
    rw [zset_o (by decide), pS_o (by decide)]
    show (if (3 : Int) = 1 then _ else qBeg _ 3) = _
    rw [if_neg (by decide), qBeg_o (by decide)]
    exact zRow_e
  have rJ : zJs (qCoastS σ r) := by
    unfold zJs
    rw [ro 6 (by decide) (by decide) (by decide), rg 15 (by omega) (by decide) (by decide), rg 16 (by omega) (by decide) (by decide), rg 18 (by omega) (by decide) (by decide), rg 19 (by omega) (by decide) (by decide)]
    exact hr.js
  have rT : zTape (qCoastS σ r) := ⟨by rw [r8]; exact ⟨by decide, by decide⟩, by rw [ro 5 (by decide) (by decide) (by decide)]; exact ht.2⟩
  refine ⟨qCoastT r, r.2.1 0 + 1, (if 0 < qCoastT r then 0 else r.2.1 0 + 1), fun τ => τ = qCoastS σ r, (by rcases hT with z | z | z; exact Or.inl z; exact Or.inr (Or.inl z); exact Or.inr (Or.inr ⟨z, by decide⟩)), fun z => by rw [if_neg (by omega)], trivial, hc.imp ?_, fun lay' nx' C0 hRl hSl => (m_X12_coast hRl hSl ht hM.ol.1).imp ?_⟩
  · rintro o l c n ⟨q, C', ⟨a0, a1, a2, a3, a4, a5, a6⟩, g2, g3, g4, g5⟩
    subst g3
    subst g5
    subst a0
    refine ⟨q, _, g4, fun _ _ => rfl, Int.le_refl _, by rw [g2]; unfold zKo; rfl, hw9, fun _ _ _ => rfl, fun τ hτ => ?_⟩
    subst hτ
    rw [er] at a2 a5 a6
    by_cases hz : qCoastT r = 0
    · obtain ⟨b1, b2, b3, b4⟩ := a5 hz
      have t1 : qCoastS σ r 1 = zput r.2.1 0 (r.2.1 0 + 1) := by
        unfold qCoastS
        rw [if_neg (by omega), zset_o (by decide), zset_row, rR1]
      have t6 : qCoastS σ r 0 6 = 0 := by
        unfold qCoastS
        rw [if_neg (by omega)]
        exact zset_eq
      have hb0 := b4.I.s 0 rfl (by omega)
      have hlt : r.2.1 0 ≠ 12 := by
        intro e
        unfold qCoastT at hz
        rw [if_pos e] at hz
        split at hz <;> omega
      refine ⟨by rw [t1]; exact b3, by rw [t1]; exact b4.m (b4.ol.put (Or.inl (by decide)) (by decide) (fun _ _ => Or.inr (by show (0 : Int) ≤ _ ∧ _ ≤ (12 : Int); omega))) (fun j hj => zput_ne (by omega)), by rw [a3 6 (by decide) (by decide) (by decide) (by decide), rg 3 (by omega) (by decide) (by decide)]; exact hr.k0, by rw [rg 3 (by omega) (by decide) (by decide)]; exact hr.k1, fun w => ?_, by rw [t6]; exact ⟨by rw [b1]; exact ⟨by decide, by decide⟩, b2, ⟨by decide, by decide⟩, fun i i0 i1 => by omega⟩, fun i i0 i1 => by rw [t6] at i1; omega, by rw [a4 1 (by decide) (by omega) (by decide) (by omega), ro 5 (by decide) (by decide) (by decide)]; exact hr.t1, by rw [a1, r8], by rw [a2, r12], rT, rJ⟩
      rw [rg 3 (by omega) (by decide) (by decide)] at w
      rw [ro 2 (by decide) (by decide) (by decide)]
      exact ⟨(hr.kp w).1.out (fun i i0 i1 => a4 i (by omega) (by omega) (by omega) (by omega)), (hr.kp w).2⟩
    · obtain ⟨b1, b2, b3⟩ := a6 hz
      have t1 : qCoastS σ r 1 = σ 1 := by
        unfold qCoastS
        rw [if_pos (by omega), zRow_e, rR1, rR3]
        funext j
        unfold qcopy
        by_cases w : 0 ≤ j ∧ j < 426
        · rw [if_pos w, if_pos w]
        · rw [if_neg w]; exact hkp j (by unfold zKp; omega)
      have t6 : qCoastS σ r 0 6 = σ 0 6 := by
        unfold qCoastS
        rw [if_pos (by omega), zRow_o (by decide), rb 6 (by decide) (by decide) (by decide), qBeg_f (by omega), zRow_o (by decide)]
      have h0 : ∀ j, j = 6 ∨ j = 8 ∨ j = 9 → q 0 j = s 0 j := by
        intro j hj
        rcases hj with e | e | e <;> rw [e]
        · exact a3 6 (by decide) (by decide) (by decide) (by decide)
        · exact b1
        · exact b2
      refine hr.tape (hR.out (fun i i0 i1 => b3 i (by omega) (by omega))) (zStk.refl _ _) (fun i hi => a4 i (by omega) (by omega) (by omega) (by omega)) h0 (fun j hj => by rcases hj with e | e <;> rw [e]; exact rg 3 (by omega) (by decide) (by decide); exact t6) (fun o ho => by rcases ho with e | e | e <;> rw [e]; exact t1; exact ro 2 (by decide) (by decide) (by decide); exact ro 4 (by decide) (by decide) (by decide)) (by rw [a4 1 (by decide) (by omega) (by decide) (by omega), ro 5 (by decide) (by decide) (by decide)]; exact hr.t1) (by rw [a1, r8]) (by rw [a2, r12]) rT rJ
  · rw [hrr]
    rintro o l c n ⟨g1, g2, g3, g4⟩
    exact ⟨_, g3, g2, g4, g1, r00, rfl⟩
end ZMORE3
