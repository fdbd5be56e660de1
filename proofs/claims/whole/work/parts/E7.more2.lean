/-! Acts undone, the image, the tape. -/
theorem zand_255 (v : Int) : 0 ≤ zand v 255 ∧ zand v 255 ≤ 255 := by
  have h := zB_of (x := zand v 255) (n := 8) (zand_in _ _) (by decide) (fun k k0 k1 => by rw [zB_and, zB_lt (x := 255) (n := 8) (by decide) (by decide) (by decide) k0, Bool.and_false])
  have e : ((2 ^ 8 : Nat) : Int) = 256 := by decide
  omega
section ZMORE2
variable {G : zG} {lay : zLay} {x y nx : Int} {C s σ : zMem}
theorem p_undo (hw9 : Wd lay x y nx C σ) (hr : Rel lay x C s σ) : zPair G lay x y nx C s σ KX11_undo 4 [] (0, 0) KX12_undo 1 zEb zEb (fun k _ => k = 0) := by
  have hR := hr.now
  have hM := hr.oc
  have hb6 := hr.pa.2.2.1
  have hJ0 : zJs (zset σ 0 0 0) := hr.js.set (by decide) (fun _ => Or.inl rfl)
  refine ⟨0, _, _, zAc σ (if σ 0 6 = 0 then zset σ 0 0 0 else zRow (zset (zset σ 0 0 0) 0 6 (σ 0 6 - 1)) 1 (qUnd (σ 4) (σ 1) (426 * (σ 0 6 - 1)) 426)) 0, Or.inl rfl, fun _ => rfl, rfl, (c_X11_undo hw9.T hr.pa (fun i i0 i1 => (hr.po i i0 i1).I)).imp (pu_ZY.trans ((zEc.Y rfl).trans (zEc.eg hw9 hr (fun _ q C' h => ?_)))), fun lay' nx' C0 hRl hSl => (m_X12_undo hRl hb6).imp (zRf.A (fun _ => ⟨rfl, ?_⟩) (fun z => absurd rfl z))⟩
  · obtain ⟨g0, h⟩ := h
    subst g0
    refine ⟨zStk.refl _ _, ?_⟩
    rcases h with ⟨z, e⟩ | ⟨z, a1, a2, a3, a4, a5⟩
    · rw [if_pos z, e]
      exact hr.ref (k := 0) (zScz.refl hJ0)
    · rw [if_neg (by omega)]
      have t1 : zRow (zset (zset σ 0 0 0) 0 6 (σ 0 6 - 1)) 1 (qUnd (σ 4) (σ 1) (426 * (σ 0 6 - 1)) 426) 1 = qAct σ (σ 0 6 - 1) := zRow_e
      have to : ∀ o, o ≠ 0 → o ≠ 1 → zRow (zset (zset σ 0 0 0) 0 6 (σ 0 6 - 1)) 1 (qUnd (σ 4) (σ 1) (426 * (σ 0 6 - 1)) 426) o = σ o := fun o o0 o1 => by rw [zRow_o o1, zset_o o0, zset_o o0]
      have tf : ∀ j, j ≠ 0 → j ≠ 6 → zRow (zset (zset σ 0 0 0) 0 6 (σ 0 6 - 1)) 1 (qUnd (σ 4) (σ 1) (426 * (σ 0 6 - 1)) 426) 0 j = σ 0 j := fun j j0 j6 => by rw [zRow_o (by decide), zset_f j6, zset_f j0]
      have t6 : zRow (zset (zset σ 0 0 0) 0 6 (σ 0 6 - 1)) 1 (qUnd (σ 4) (σ 1) (426 * (σ 0 6 - 1)) 426) 0 6 = σ 0 6 - 1 := by rw [zRow_o (by decide)]; exact zset_eq
      generalize zRow (zset (zset σ 0 0 0) 0 6 (σ 0 6 - 1)) 1 (qUnd (σ 4) (σ 1) (426 * (σ 0 6 - 1)) 426) = τ at t1 to tf t6 ⊢
      have ea : qAct τ = qAct σ := by
        funext i j
        unfold qAct
        by_cases c : 0 ≤ j ∧ j < 426
        · rw [if_pos c, if_pos c, to 4 (by decide) (by decide)]
        · rw [if_neg c, if_neg c, t1]
          unfold qAct
          rw [if_neg c]
      have hlast := hr.pa.2.2.2 (σ 0 6 - 1) (by omega) (by omega)
      have hp1 := hr.pa.1
      refine ⟨?_, by rw [t1]; exact hr.po _ (by omega) (by omega), by rw [a2 6 (by decide), tf 3 (by decide) (by decide)]; exact hr.k0, by rw [tf 3 (by decide) (by decide)]; exact hr.k1, fun w => ?_, ?_, fun i i0 i1 => ?_, by rw [a1 1 (by omega) (by decide), to 5 (by decide) (by decide)]; exact hr.t1, by rw [a2 1 (by decide), tf 8 (by decide) (by decide)]; exact hr.t2, by rw [a2 2 (by decide), tf 12 (by decide) (by decide)]; exact hr.t3, ?_, ?_⟩
      · rw [t1]
        exact ⟨a4, by rw [a5]; exact hlast.2⟩
      · rw [tf 3 (by decide) (by decide)] at w
        rw [to 2 (by decide) (by decide)]
        exact ⟨(hr.kp w).1.out (fun i i0 i1 => a1 i (by omega) (by omega)), (hr.kp w).2⟩
      · rw [t6, ea]
        refine ⟨by rw [a2 8 (by decide)]; exact hp1, a3, ⟨by omega, by omega⟩, fun i i0 i1 => ?_⟩
        rw [a2 8 (by decide)]
        exact (hr.pa.2.2.2 i i0 (by omega)).out (fun j j0 j1 => a1 j (by omega) (by omega))
      · rw [t6] at i1
        rw [ea]
        exact hr.po i i0 (by omega)
      · unfold zTape
        rw [tf 8 (by decide) (by decide), to 5 (by decide) (by decide)]
        exact hr.tb
      · unfold zJs
        rw [to 6 (by decide) (by decide), tf 15 (by decide) (by decide), tf 16 (by decide) (by decide), tf 18 (by decide) (by decide), tf 19 (by decide) (by decide)]
        exact hr.js
  · by_cases z : σ 0 6 = 0
    · rw [if_pos z]; exact zset_eq
    · rw [if_neg z, zRow_o (by decide), zset_f (by decide)]; exact zset_eq
theorem p_back (hw9 : Wd lay x y nx C σ) (hr : Rel lay x C s σ) : zPair G lay x y nx C s σ KX11_back 4 [] (0, 0) KX12_back 1 zEb zEb (fun k _ => k = 0) := by
  have hR := hr.now
  have hM := hr.oc
  have hk1 := hr.k1
  have hJ0 : zJs (zset σ 0 0 0) := hr.js.set (by decide) (fun _ => Or.inl rfl)
  have hk : s 0 6 = 0 ∨ s 0 6 = 1 ∧ CoN s 38 (σ 2) ∧ zInv (σ 2) := by
    rw [hr.k0]
    rcases hk1 with z | z
    · exact Or.inl z
    · exact Or.inr ⟨z, (hr.kp z).1.1, (hr.kp z).2.I⟩
  refine ⟨0, _, _, zAc σ (if σ 0 3 = 0 then zset σ 0 0 0 else zset (zRow (zset σ 0 0 0) 1 (qcopy (σ 2) (σ 1) 826)) 0 6 0) 0, Or.inl rfl, fun _ => hr.k0, rfl, (c_X11_back hw9.T hk).imp (pu_ZY.trans ((zEc.Y rfl).trans (zEc.eg hw9 hr (fun _ q C' h => ?_)))), fun lay' nx' C0 hRl hSl => (m_X12_back hRl hk1).imp (zRf.A (fun _ => ⟨rfl, ?_⟩) (fun z => absurd rfl z))⟩
  · obtain ⟨g0, h⟩ := h
    subst g0
    refine ⟨zStk.refl _ _, ?_⟩
    rw [hr.k0] at h
    rcases h with ⟨z, e⟩ | ⟨z, a1, a2, a8, a9, a4, a5⟩
    · rw [if_pos z, e]
      exact hr.ref (k := 0) (zScz.refl hJ0)
    · rw [if_neg (by omega)]
      obtain ⟨b1, b2⟩ := hr.kp z
      have t1 : zset (zRow (zset σ 0 0 0) 1 (qcopy (σ 2) (σ 1) 826)) 0 6 0 1 = qcopy (σ 2) (σ 1) 826 := by rw [zset_o (by decide)]; exact zRow_e
      have to : ∀ o, o ≠ 0 → o ≠ 1 → zset (zRow (zset σ 0 0 0) 1 (qcopy (σ 2) (σ 1) 826)) 0 6 0 o = σ o := fun o o0 o1 => by rw [zset_o o0, zRow_o o1, zset_o o0]
      have tf : ∀ j, j ≠ 0 → j ≠ 6 → zset (zRow (zset σ 0 0 0) 1 (qcopy (σ 2) (σ 1) 826)) 0 6 0 0 j = σ 0 j := fun j j0 j6 => by rw [zset_f j6, zRow_o (by decide), zset_f j0]
      have t6 : zset (zRow (zset σ 0 0 0) 1 (qcopy (σ 2) (σ 1) 826)) 0 6 0 0 6 = 0 := zset_eq
      generalize zset (zRow (zset σ 0 0 0) 1 (qcopy (σ 2) (σ 1) 826)) 0 6 0 = τ at t1 to tf t6 ⊢
      have ec : ∀ j, 0 ≤ j → j < 826 → qcopy (σ 2) (σ 1) 826 j = σ 2 j := fun j j0 j1 => if_pos ⟨j0, j1⟩
      refine ⟨?_, by rw [t1]; exact b2.agr ec, by rw [a2 6 (by decide) (by decide), tf 3 (by decide) (by decide)]; exact hr.k0, by rw [tf 3 (by decide) (by decide)]; exact hr.k1, fun w => ?_, ?_, fun i i0 i1 => by rw [t6] at i1; omega, by rw [a1 1 (by omega) (by decide), to 5 (by decide) (by decide)]; exact hr.t1, by rw [a2 1 (by decide) (by decide), tf 8 (by decide) (by decide)]; exact hr.t2, by rw [a2 2 (by decide) (by decide), tf 12 (by decide) (by decide)]; exact hr.t3, ?_, ?_⟩
      · rw [t1]
        have hc : CoR lay x C' q (0 + 2) (σ 2) := ⟨a4, by rw [a5]; exact b1.2⟩
        exact hc.agr b2.I ec
      · rw [to 2 (by decide) (by decide)]
        exact ⟨b1.out (fun i i0 i1 => a1 i (by omega) (by omega)), b2⟩
      · rw [t6]
        exact ⟨by rw [a8]; exact ⟨by decide, by decide⟩, a9, ⟨by decide, by decide⟩, fun i i0 i1 => by omega⟩
      · unfold zTape
        rw [tf 8 (by decide) (by decide), to 5 (by decide) (by decide)]
        exact hr.tb
      · unfold zJs
        rw [to 6 (by decide) (by decide), tf 15 (by decide) (by decide), tf 16 (by decide) (by decide), tf 18 (by decide) (by decide), tf 19 (by decide) (by decide)]
        exact hr.js
  · by_cases z : σ 0 3 = 0
    · rw [if_pos z]; exact zset_eq
    · rw [if_neg z, zset_f (by decide), zRow_o (by decide)]; exact zset_eq
/-- a kept image -/
theorem p_image (hw9 : Wd lay x y nx C σ) (hr : Rel lay x C s σ) : zMM G 4 KX11_image [zP (x + 0)] lay (tC x s C) nx (0, 0) (zZ' none (fun q => Rel lay x C q (zset (zRow (zset σ 0 0 0) 2 (qcopy (σ 1) (σ 2) 826)) 0 3 1)) lay C nx x) := by
  have hR := hr.now
  have hM := hr.oc
  refine (c_X11_image hw9.T hR.1 hM.I).imp ?_
  rintro o l c m ⟨q, C', ⟨g0, a1, a2, a3, a4, a5⟩, g1, g2, g3, g4⟩
  subst g0
  refine ⟨q, _, ⟨rfl, ?_⟩, g1, g2, g3, g4⟩
  have t2 : zset (zRow (zset σ 0 0 0) 2 (qcopy (σ 1) (σ 2) 826)) 0 3 1 2 = qcopy (σ 1) (σ 2) 826 := by rw [zset_o (by decide)]; exact zRow_e
  have to : ∀ o, o ≠ 0 → o ≠ 2 → zset (zRow (zset σ 0 0 0) 2 (qcopy (σ 1) (σ 2) 826)) 0 3 1 o = σ o := fun o o0 o1 => by rw [zset_o o0, zRow_o o1, zset_o o0]
  have tf : ∀ j, j ≠ 0 → j ≠ 3 → zset (zRow (zset σ 0 0 0) 2 (qcopy (σ 1) (σ 2) 826)) 0 3 1 0 j = σ 0 j := fun j j0 j6 => by rw [zset_f j6, zRow_o (by decide), zset_f j0]
  have t3 : zset (zRow (zset σ 0 0 0) 2 (qcopy (σ 1) (σ 2) 826)) 0 3 1 0 3 = 1 := zset_eq
  generalize zset (zRow (zset σ 0 0 0) 2 (qcopy (σ 1) (σ 2) 826)) 0 3 1 = τ at t2 to tf t3 ⊢
  have ec : ∀ j, 0 ≤ j → j < 826 → qcopy (σ 1) (σ 2) 826 j = σ 1 j := fun j j0 j1 => if_pos ⟨j0, j1⟩
  have ea : qAct τ = qAct σ := by unfold qAct; rw [to 1 (by decide) (by decide), to 4 (by decide) (by decide)]
  refine ⟨?_, by rw [to 1 (by decide) (by decide)]; exact hM, by rw [a3, t3], Or.inr t3, fun w => ?_, ?_, ?_, by rw [a1 1 (by omega) (by decide), to 5 (by decide) (by decide)]; exact hr.t1, by rw [a2 1 (by decide), tf 8 (by decide) (by decide)]; exact hr.t2, by rw [a2 2 (by decide), tf 12 (by decide) (by decide)]; exact hr.t3, ?_, ?_⟩
  · rw [to 1 (by decide) (by decide)]
    exact hR.out (fun i i0 i1 => a1 i (by omega) (by omega))
  · rw [t2]
    have hc : CoR lay x C' q 38 (σ 1) := ⟨a4, by rw [a5]; exact hR.2⟩
    exact ⟨hc.agr hM.I ec, hM.agr ec⟩
  · rw [tf 6 (by decide) (by decide), ea]
    exact hr.pa.out (fun i i0 i1 => a1 i (by omega) (by omega)) (a2 8 (by decide)) (a2 9 (by decide))
  · rw [tf 6 (by decide) (by decide), ea]
    exact hr.po
  · unfold zTape
    rw [tf 8 (by decide) (by decide), to 5 (by decide) (by decide)]
    exact hr.tb
  · unfold zJs
    rw [to 6 (by decide) (by decide), tf 15 (by decide) (by decide), tf 16 (by decide) (by decide), tf 18 (by decide) (by decide), tf 19 (by decide) (by decide)]
    exact hr.js
/-- the tape has changed, and what is said of a wrong byte -/
theorem Rel.tape {lay : zLay} {x : Int} {C C' s q σ τ : zMem} (h : Rel lay x C s σ) (hn : CoR lay x C' q (0 + 2) (σ 1)) (hst : zStk C (s (0 + 2) 10) C') (hq : ∀ i, ((38 ≤ i ∧ i < 56) ∨ (57 ≤ i ∧ i < 273)) → q i = s i) (h0 : ∀ j, j = 6 ∨ j = 8 ∨ j = 9 → q 0 j = s 0 j) (e0 : ∀ j, j = 3 ∨ j = 6 → τ 0 j = σ 0 j) (eo : ∀ o, o = 1 ∨ o = 2 ∨ o = 4 → τ o = σ o) (t1 : q 1 = τ 5) (t2 : q 0 1 = τ 0 8) (t3 : q 0 2 = τ 0 12) (tb : zTape τ) (js : zJs τ) : Rel lay x C' q τ := by
  have ea : qAct τ = qAct σ := by unfold qAct; rw [eo 1 (by omega), eo 4 (by omega)]
  have f3 := e0 3 (by omega)
  have f6 := e0 6 (by omega)
  refine ⟨by rw [eo 1 (by omega)]; exact hn, by rw [eo 1 (by omega)]; exact h.oc, by rw [h0 6 (by omega), f3]; exact h.k0, by rw [f3]; exact h.k1, fun z => ?_, ?_, by rw [f6, ea]; exact h.po, t1, t2, t3, tb, js⟩
  · rw [f3] at z
    rw [eo 2 (by omega)]
    exact ⟨((h.kp z).1.out (fun i i0 i1 => hq i (by omega))).stk h.now.2 hst, (h.kp z).2⟩
  · rw [f6, ea]
    exact (h.pa.out (fun i i0 i1 => hq i (by omega)) (h0 8 (by omega)) (h0 9 (by omega))).C (fun p M q => q.stk h.now.2 hst)
theorem p_feed (hw9 : Wd lay x y nx C σ) (hr : Rel lay x C s σ) {a c d e f : Int} : zPair G lay x y nx C s σ KX11_feed 2 [zI a, zI c, zI d, zI e, zI f] (0, 0) KX12_feed 1 zEb zEb (fun k _ => k = 0) := by
  have hR := hr.now
  have hM := hr.oc
  have ht := hr.tb.1
  have e2 := hr.t2
  have hJ0 : zJs (zset σ 0 0 0) := hr.js.set (by decide) (fun _ => Or.inl rfl)
  refine ⟨0, (if 400 < s 0 1 + 20 then -1 else s 0 1 + 20), (if 400 < σ 0 8 + 20 then -1 else σ 0 8 + 20), zAc σ (if 400 < σ 0 8 + 20 then zset σ 0 0 0 else qfeed σ a c d e f 20) 0, Or.inl rfl, fun _ => ?_, rfl, (c_X11_feed hw9.T (by rw [e2]; exact ht)).imp (zIm.trans (?_ : zIm _ (zY' (some (zI _)) (fun q C' => C' = C ∧ q = (if 400 < s 0 1 + 20 then s else zFdC s a c d e f)) lay nx x)) ((zEc.Y rfl).trans (zEc.eg hw9 hr (fun _ q C' h => ?_)))), fun lay' nx' C0 hRl hSl => (m_X12_feed hRl ht).imp (zRf.A (fun _ => ⟨rfl, ?_⟩) (fun z => absurd rfl z))⟩
  · rw [e2]
  · rintro o l c m ⟨g1, g2, g3, g4⟩
    exact ⟨_, _, ⟨rfl, rfl⟩, g1, g2, g3, g4⟩
  · obtain ⟨g1, g2⟩ := h
    subst g1
    subst g2
    refine ⟨zStk.refl _ _, ?_⟩
    rw [e2]
    by_cases z : 400 < σ 0 8 + 20
    · rw [if_pos z, if_pos z]
      exact hr.ref (k := 0) (zScz.refl hJ0)
    · rw [if_neg z, if_neg z]
      have fo : ∀ o, o ≠ 0 → o ≠ 5 → qfeed σ a c d e f 20 o = σ o := fun o o0 o5 => by funext j; unfold qfeed; rw [if_neg (by omega), if_neg (by omega), if_neg (by omega)]
      have ff : ∀ j, j ≠ 0 → j ≠ 8 → qfeed σ a c d e f 20 0 j = σ 0 j := fun j j0 j8 => by unfold qfeed; rw [if_neg (by omega), if_neg (by omega), if_neg (by omega)]
      have f8 : qfeed σ a c d e f 20 0 8 = σ 0 8 + 20 := by unfold qfeed; rw [if_neg (by omega), if_pos ⟨rfl, rfl⟩]
      have f5 : qfeed σ a c d e f 20 5 = fun j => if σ 0 8 ≤ j ∧ j < σ 0 8 + 20 then qbyte a c d e f (j - σ 0 8) else σ 5 j := by
        funext j
        unfold qfeed
        rw [if_neg (by omega), if_neg (by omega)]
        by_cases w : σ 0 8 ≤ j ∧ j < σ 0 8 + 20
        · rw [if_pos w, if_pos ⟨rfl, w⟩]
        · rw [if_neg w, if_neg (fun v => w v.2)]
      have hbt : ∀ k, 0 ≤ qbyte a c d e f k ∧ qbyte a c d e f k ≤ 255 := fun k => by unfold qbyte; exact zand_255 _
      refine hr.tape (hR.out (fun i i0 i1 => zFdC_o (by omega) (by omega))) (zStk.refl _ _) (fun i hi => zFdC_o (by omega) (by omega)) (fun j hj => zFdC_f (by omega)) (fun j hj => ff j (by omega) (by omega)) (fun o ho => fo o (by omega) (by omega)) ?_ (by rw [zFdC_t, f8, e2]) (by rw [zFdC_f (by decide), ff 12 (by decide) (by decide)]; exact hr.t3) ⟨by rw [f8]; omega, fun k k0 k1 => ?_⟩ ?_
      · rw [zFdC_1, f5, e2, hr.t1]
      · rw [f5]
        dsimp only
        split
        · exact hbt _
        · exact hr.tb.2 k k0 k1
      · unfold zJs
        rw [fo 6 (by decide) (by decide), ff 15 (by decide) (by decide), ff 16 (by decide) (by decide), ff 18 (by decide) (by decide), ff 19 (by decide) (by decide)]
        exact hr.js
  · by_cases z : 400 < σ 0 8 + 20
    · rw [if_pos z]; exact zset_eq
    · rw [if_neg z]; unfold qfeed; exact if_pos ⟨rfl, rfl⟩
theorem p_end (hw9 : Wd lay x y nx C σ) (hr : Rel lay x C s σ) {n : Int} (hn : zin n) : zPair G lay x y nx C s σ KX11_end 1 [zI n] (0, 0) KX12_end 2 zEb zEb (fun k _ => k = 0) := by
  have hR := hr.now
  have hM := hr.oc
  have ht := hr.tb.1
  have e2 := hr.t2
  have hJ0 : zJs (zset σ 0 0 0) := hr.js.set (by decide) (fun _ => Or.inl rfl)
  refine ⟨0, zbi (0 ≤ n ∧ n ≤ s 0 1), zbi (0 ≤ n ∧ n ≤ σ 0 8), zAc σ (if 0 ≤ n ∧ n ≤ σ 0 8 then zset (zset σ 0 0 0) 0 8 n else zset σ 0 0 0) 0, Or.inl rfl, fun _ => ?_, rfl, (c_X11_end hw9.T hn (by rw [e2]; exact ht)).imp (zIm.trans (?_ : zIm _ (zY' (some (zI _)) (fun q C' => C' = C ∧ q = (if 0 ≤ n ∧ n ≤ s 0 1 then zset s 0 1 n else s)) lay nx x)) ((zEc.Y rfl).trans (zEc.eg hw9 hr (fun _ q C' h => ?_)))), fun lay' nx' C0 hRl hSl => (m_X12_end hRl ht hn).imp (zRf.A (fun _ => ⟨rfl, ?_⟩) (fun z => absurd rfl z))⟩
  · rw [e2]
  · rintro o l c m ⟨g1, g2, g3, g4⟩
    exact ⟨_, _, ⟨rfl, rfl⟩, g1, g2, g3, g4⟩
  · obtain ⟨g1, g2⟩ := h
    subst g1
    subst g2
    refine ⟨zStk.refl _ _, ?_⟩
    rw [e2]
    by_cases z : 0 ≤ n ∧ n ≤ σ 0 8
    · rw [if_pos z, if_pos z]
      refine hr.tape (hR.out (fun i i0 i1 => zset_o (by omega))) (zStk.refl _ _) (fun i hi => zset_o (by omega)) (fun j hj => zset_f (by omega)) (fun j hj => by rw [zset_f (by omega), zset_f (by omega)]) (fun o ho => by rw [zset_o (by omega), zset_o (by omega)]) (by rw [zset_o (by decide), zset_o (by decide), zset_o (by decide)]; exact hr.t1) (by rw [zset_eq, zset_eq]) (by rw [zset_f (by decide), zset_f (by decide), zset_f (by decide)]; exact hr.t3) ⟨by rw [zset_eq]; omega, fun k k0 k1 => by rw [zset_o (by decide), zset_o (by decide)]; exact hr.tb.2 k k0 k1⟩ (hJ0.set (by decide) (fun _ => by unfold zNs; omega))
    · rw [if_neg z, if_neg z]
      exact hr.ref (k := 0) (zScz.refl hJ0)
  · by_cases z : 0 ≤ n ∧ n ≤ σ 0 8
    · rw [if_pos z, zset_f (by decide)]; exact zset_eq
    · rw [if_neg z]; exact zset_eq
end ZMORE2
