/-! The calls that change nothing that counts. -/
theorem qThr1_h {P : Prop} (h : qThr1 P = 0) : P := Classical.byContradiction (fun z => by rw [qThr1_f z] at h; exact absurd h (by decide))
theorem qThr2_h {P Q : Prop} (h : qThr2 P Q = 0) : P ∧ Q := by
  by_cases p : P
  · by_cases q : Q
    · exact ⟨p, q⟩
    · rw [qThr2_2 p q] at h; exact absurd h (by decide)
  · rw [qThr2_1 p] at h; exact absurd h (by decide)
theorem ite_h {P : Prop} [Decidable P] (h : (if P then (0 : Int) else 1) = 0) : P := Classical.byContradiction (fun z => by rw [if_neg z] at h; exact absurd h (by decide))
theorem ite_012 (P : Prop) [Decidable P] {E1 E2 : String} : (if P then (0 : Int) else 1) = 0 ∨ (if P then (0 : Int) else 1) = 1 ∨ ((if P then (0 : Int) else 1) = 2 ∧ E1 ≠ E2) := by
  by_cases p : P
  · exact Or.inl (if_pos p)
  · exact Or.inr (Or.inl (if_neg p))
theorem qThr1_012 (P : Prop) {E1 E2 : String} : qThr1 P = 0 ∨ qThr1 P = 1 ∨ (qThr1 P = 2 ∧ E1 ≠ E2) := by
  by_cases p : P
  · exact Or.inl (qThr1_t p)
  · exact Or.inr (Or.inl (qThr1_f p))
theorem qThr2_012 (P Q : Prop) {E1 E2 : String} (h : E1 ≠ E2) : qThr2 P Q = 0 ∨ qThr2 P Q = 1 ∨ (qThr2 P Q = 2 ∧ E1 ≠ E2) := by
  by_cases p : P
  · by_cases q : Q
    · exact Or.inl (qThr2_0 p q)
    · exact Or.inr (Or.inr ⟨qThr2_2 p q, h⟩)
  · exact Or.inr (Or.inl (qThr2_1 p))
section ZPAIR
variable {G : zG} {lay : zLay} {x y nx : Int} {C s σ : zMem}
theorem p_fault (hw9 : Wd lay x y nx C σ) (hr : Rel lay x C s σ)  : zPair G lay x y nx C s σ KX11_fault 1 [] (0, 0) KX12_fault 1 zEb zEb (fun k _ => k = 0) := by
  have hR := hr.now
  have hN := hR.1
  have hM := hr.oc
  refine ⟨0, _, _, zScz (zset σ 0 0 (0)), Or.inl rfl, ?_, rfl, (c_X11_fault hw9.T ).imp (zIm.trans ((pu_R hR).trans (zYp.ep zEb zEb rfl)) (zEp.eg hw9 hr _ _ _ _)), fun lay' nx' C0 hRl hSl => (m_X12_fault hRl).imp (zRf.R hr.js)⟩
  exact fun _ => hr.t3
theorem p_member (hw9 : Wd lay x y nx C σ) (hr : Rel lay x C s σ) {p w : Int} (hp : zin p) (hw : zin w) : zPair G lay x y nx C s σ KX11_member 8 [zI p, zI w] (2, 12) KX12_member 3 zEb zEn (fun _ _ => True) := by
  have hR := hr.now
  have hN := hR.1
  have hM := hr.oc
  refine ⟨qThr2 (0 ≤ p ∧ p < σ 1 3) (0 ≤ w ∧ w ≤ 5), _, _, zScz (zset σ 0 0 (qThr2 (0 ≤ p ∧ p < σ 1 3) (0 ≤ w ∧ w ≤ 5))), (qThr2_012 _ _ (by decide)), ?_, trivial, (c_X11_member hw9.T hN hM hp hw).imp (zIm.trans (zGd.e1 hR (fun z => qThr2_1 (by omega)) (fun h0 => zGd.e2 hR (fun z => qThr2_2 (by omega) z) (fun h1 => (pu_R hR).trans (zYp.ep zEb zEn (qThr2_0 (by omega) (by first | omega | assumption)))))) (zEp.eg hw9 hr _ _ _ _)), fun lay' nx' C0 hRl hSl => (m_X12_member hRl hp hw hM.ol.1).imp (zRf.R hr.js)⟩
  exact fun z => by unfold qMember qMemC; rw [if_pos z]
theorem p_motion (hw9 : Wd lay x y nx C σ) (hr : Rel lay x C s σ) {k w : Int} (hk : zin k) (hw : zin w) : zPair G lay x y nx C s σ KX11_motion 8 [zI k, zI w] (2, 12) KX12_motion 3 zEb zEn (fun _ _ => True) := by
  have hR := hr.now
  have hN := hR.1
  have hM := hr.oc
  refine ⟨qThr2 (0 ≤ k ∧ k < σ 1 4) (0 ≤ w ∧ w ≤ 5), _, _, zScz (zset σ 0 0 (qThr2 (0 ≤ k ∧ k < σ 1 4) (0 ≤ w ∧ w ≤ 5))), (qThr2_012 _ _ (by decide)), ?_, trivial, (c_X11_motion hw9.T hN hM hk hw).imp (zIm.trans (zGd.e1 hR (fun z => qThr2_1 (by omega)) (fun h0 => zGd.e2 hR (fun z => qThr2_2 (by omega) z) (fun h1 => (pu_R hR).trans (zYp.ep zEb zEn (qThr2_0 (by omega) (by first | omega | assumption)))))) (zEp.eg hw9 hr _ _ _ _)), fun lay' nx' C0 hRl hSl => (m_X12_motion hRl hk hw hM.I.m4 (fun t t0 t1 => by have := hM.I.P8 (t := t) ⟨t0, t1⟩; exact ⟨by omega, by omega⟩)).imp (zRf.R hr.js)⟩
  exact fun z => by have z2 := (qThr2_h z).1; rw [if_pos z, qHourOf_q hM.pap (by omega)]
theorem p_follows (hw9 : Wd lay x y nx C σ) (hr : Rel lay x C s σ) {a c : Int} (ha : zin a) (hc : zin c) : zPair G lay x y nx C s σ KX11_follows 8 [zI a, zI c] (2, 12) KX12_follows 3 zEb zEb (fun _ _ => True) := by
  have hR := hr.now
  have hN := hR.1
  have hM := hr.oc
  refine ⟨if (0 ≤ a ∧ a < 5) ∧ 0 ≤ c ∧ c < 5 then 0 else 1, _, _, zScz (zset σ 0 0 (if (0 ≤ a ∧ a < 5) ∧ 0 ≤ c ∧ c < 5 then 0 else 1)), ite_012 _, ?_, trivial, (c_X11_follows hw9.T hN ha hc).imp (zIm.trans (zGd.e1 hR (fun z => if_neg (by omega)) (fun h0 => zGd.e1 hR (fun z => if_neg (by omega)) (fun h1 => (pu_R hR).trans (zYp.ep zEb zEb (if_pos (by omega)))))) (zEp.eg hw9 hr _ _ _ _)), fun lay' nx' C0 hRl hSl => (m_X12_follows hRl ha hc).imp (zRf.R hr.js)⟩
  exact fun z => (if_pos (ite_h z)).symm
theorem p_exposed (hw9 : Wd lay x y nx C σ) (hr : Rel lay x C s σ) {a : Int} (ha : zin a) : zPair G lay x y nx C s σ KX11_exposed 8 [zI a] (1, 6) KX12_exposed 2 zEb zEb (fun _ _ => True) := by
  have hR := hr.now
  have hN := hR.1
  have hM := hr.oc
  refine ⟨if 0 ≤ a ∧ a < 8 then 0 else 1, _, _, zScz (zset σ 0 0 (if 0 ≤ a ∧ a < 8 then 0 else 1)), ite_012 _, ?_, trivial, (c_X11_exposed hw9.T hN ha).imp (zIm.trans (zGd.e1 hR (fun z => if_neg (by omega)) (fun h0 => (pu_R hR).trans (zYp.ep zEb zEb (if_pos (by omega))))) (zEp.eg hw9 hr _ _ _ _)), fun lay' nx' C0 hRl hSl => (m_X12_exposed hRl ha).imp (zRf.R hr.js)⟩
  exact fun z => (if_pos (ite_h z)).symm
theorem p_paper (hw9 : Wd lay x y nx C σ) (hr : Rel lay x C s σ) {a : Int} (ha : zin a) : zPair G lay x y nx C s σ KX11_paper 8 [zI a] (1, 6) KX12_paper 3 zEb zEb (fun _ _ => True) := by
  have hR := hr.now
  have hN := hR.1
  have hM := hr.oc
  refine ⟨if 0 ≤ a ∧ a < 12 then 0 else 1, _, _, zScz (zset σ 0 0 (if 0 ≤ a ∧ a < 12 then 0 else 1)), ite_012 _, ?_, trivial, (c_X11_paper hw9.T hN ha).imp (zIm.trans (zGd.e1 hR (fun z => if_neg (by omega)) (fun h0 => (pu_R hR).trans (zYp.ep zEb zEb (if_pos (by omega))))) (zEp.eg hw9 hr _ _ _ _)), fun lay' nx' C0 hRl hSl => (m_X12_paper hRl ha).imp (zRf.R hr.js)⟩
  exact fun z => (if_pos (ite_h z)).symm
theorem p_felt (hw9 : Wd lay x y nx C σ) (hr : Rel lay x C s σ) {p a k : Int} (hp : zin p) (ha : zin a) (hk : zin k) : zPair G lay x y nx C s σ KX11_felt 8 [zI p, zI a, zI k] (3, 18) KX12_felt 67 zEb zEb (fun _ _ => True) := by
  have hR := hr.now
  have hN := hR.1
  have hM := hr.oc
  refine ⟨qThr1 ((0 ≤ p ∧ p < σ 1 3) ∧ (0 ≤ a ∧ a < 5) ∧ (k = -1 ∨ 0 ≤ k ∧ k < σ 1 4)), _, _, zScz (zset σ 0 0 (qThr1 ((0 ≤ p ∧ p < σ 1 3) ∧ (0 ≤ a ∧ a < 5) ∧ (k = -1 ∨ 0 ≤ k ∧ k < σ 1 4)))), qThr1_012 _, ?_, trivial, (c_X11_felt hw9.T hN hR.2 hM hp ha hk).imp (zIm.trans (zGd.e1 hR (fun z => qThr1_f (by omega)) (fun h0 => zGd.e1 hR (fun z => qThr1_f (by omega)) (fun h1 => zGd.e1 hR (fun z => qThr1_f (by omega)) (fun h2 => (pu_Y (fun q C' h => zPu.F hR h)).trans (zYp.ep zEb zEb (qThr1_t (by omega))))))) (zEp.eg hw9 hr _ _ _ _)), fun lay' nx' C0 hRl hSl => (m_X12_felt hRl hSl hr.js hM.ol hp ha hk).imp (zRf.X (fun τ h => h.x.z))⟩
  exact fun z => (zif_t (qThr1_h z)).symm
theorem p_goes (hw9 : Wd lay x y nx C σ) (hr : Rel lay x C s σ) {k a h : Int} (hk : zin k) (ha : zin a) (hh : zin h) : zPair G lay x y nx C s σ KX11_goes 8 [zI k, zI a, zI h] (3, 18) KX12_goes 68 zEb zEb (fun _ _ => True) := by
  have hR := hr.now
  have hN := hR.1
  have hM := hr.oc
  refine ⟨qThr1 ((0 ≤ k ∧ k < σ 1 4) ∧ (0 ≤ a ∧ a < 5) ∧ 0 ≤ h ∧ h < 12), _, _, zScz (zset σ 0 0 (qThr1 ((0 ≤ k ∧ k < σ 1 4) ∧ (0 ≤ a ∧ a < 5) ∧ 0 ≤ h ∧ h < 12))), qThr1_012 _, ?_, trivial, (c_X11_goes hw9.T hN hR.2 hM hk ha hh).imp (zIm.trans (zGd.e1 hR (fun z => qThr1_f (by omega)) (fun h0 => zGd.e1 hR (fun z => qThr1_f (by omega)) (fun h1 => zGd.e1 hR (fun z => qThr1_f (by omega)) (fun h2 => (pu_Y (fun q C' h => zPu.F hR h)).trans (zYp.ep zEb zEb (qThr1_t (by omega))))))) (zEp.eg hw9 hr _ _ _ _)), fun lay' nx' C0 hRl hSl => (m_X12_goes hRl hSl hr.js hM.ol hk ha hh).imp (zRf.X (fun τ h => h.x.z))⟩
  exact fun z => (zif_t (qThr1_h z)).symm
theorem p_chance (hw9 : Wd lay x y nx C σ) (hr : Rel lay x C s σ) {a n : Int} (ha : zin a) (hn : zin n) : zPair G lay x y nx C s σ KX11_chance 8 [zI a, zI n] (2, 12) KX12_chance 5 zEb zEa (fun _ _ => True) := by
  have hR := hr.now
  have hN := hR.1
  have hM := hr.oc
  refine ⟨qThr2 (0 ≤ a ∧ a < 5) (0 ≤ n ∧ n ≤ 24), _, _, zScz (zset σ 0 0 (qThr2 (0 ≤ a ∧ a < 5) (0 ≤ n ∧ n ≤ 24))), (qThr2_012 _ _ (by decide)), ?_, trivial, (c_X11_chance hw9.T hR hM ha hn).imp (zIm.trans (zGd.e1 hR (fun z => qThr2_1 (by omega)) (fun h0 => zGd.e2 hR (fun z => qThr2_2 (by omega) z) (fun h1 => (pu_Z (fun q h => zPu.W hR hM.I h)).trans (zYp.ep zEb zEa (qThr2_0 (by omega) (by first | omega | assumption)))))) (zEp.eg hw9 hr _ _ _ _)), fun lay' nx' C0 hRl hSl => (m_X12_chance hRl hr.js hM.ol ha hn).imp (zRf.X (fun τ h => h.x.z))⟩
  exact fun z => (if_pos z).symm
theorem p_carries (hw9 : Wd lay x y nx C σ) (hr : Rel lay x C s σ) {k n : Int} (hk : zin k) (hn : zin n) : zPair G lay x y nx C s σ KX11_carries 8 [zI k, zI n] (2, 12) KX12_carries 69 zEb zEa (fun _ _ => True) := by
  have hR := hr.now
  have hN := hR.1
  have hM := hr.oc
  refine ⟨qThr2 (0 ≤ k ∧ k < σ 1 4) (1 ≤ n ∧ n ≤ 24), _, _, zScz (zset σ 0 0 (qThr2 (0 ≤ k ∧ k < σ 1 4) (1 ≤ n ∧ n ≤ 24))), (qThr2_012 _ _ (by decide)), ?_, trivial, (c_X11_carries hw9.T hR hM hk hn).imp (zIm.trans (zGd.e1 hR (fun z => qThr2_1 (by omega)) (fun h0 => zGd.e2 hR (fun z => qThr2_2 (by omega) z) (fun h1 => (pu_Y (fun q C' h => zPu.A ⟨fun i hi => h.1 i (by omega), h.2⟩)).trans (zYp.ep zEb zEa (qThr2_0 (by omega) (by first | omega | assumption)))))) (zEp.eg hw9 hr _ _ _ _)), fun lay' nx' C0 hRl hSl => (m_X12_carries hRl hSl hr.js hM.ol hk hn).imp (zRf.X (fun τ h => h.x.z))⟩
  exact fun z => (if_pos z).symm
theorem p_soonest (hw9 : Wd lay x y nx C σ) (hr : Rel lay x C s σ) {k n : Int} (hk : zin k) (hn : zin n) : zPair G lay x y nx C s σ KX11_soonest 8 [zI k, zI n] (2, 12) KX12_soonest 69 zEb zEa (fun _ _ => True) := by
  have hR := hr.now
  have hN := hR.1
  have hM := hr.oc
  refine ⟨qThr2 (0 ≤ k ∧ k < σ 1 4) (0 ≤ n ∧ n ≤ 10000), _, _, zScz (zset σ 0 0 (qThr2 (0 ≤ k ∧ k < σ 1 4) (0 ≤ n ∧ n ≤ 10000))), (qThr2_012 _ _ (by decide)), ?_, trivial, (c_X11_soonest hw9.T hR hM hk hn).imp (zIm.trans (zGd.e1 hR (fun z => qThr2_1 (by omega)) (fun h0 => zGd.e2 hR (fun z => qThr2_2 (by omega) z) (fun h1 => (pu_Y (fun q C' h => zPu.A h)).trans (zYp.ep zEb zEa (qThr2_0 (by omega) (by first | omega | assumption)))))) (zEp.eg hw9 hr _ _ _ _)), fun lay' nx' C0 hRl hSl => (m_X12_soonest hRl hSl hr.js hM.ol hk hn).imp (zRf.X (fun τ h => h.x.z))⟩
  exact fun z => (if_pos z).symm
theorem p_when (hw9 : Wd lay x y nx C σ) (hr : Rel lay x C s σ) {k : Int} (hk : zin k) : zPair G lay x y nx C s σ KX11_when 8 [zI k] (1, 6) KX12_when 69 zEb zEb (fun _ _ => True) := by
  have hR := hr.now
  have hN := hR.1
  have hM := hr.oc
  refine ⟨qThr1 (0 ≤ k ∧ k < σ 1 4), _, _, zScz (zset σ 0 0 (qThr1 (0 ≤ k ∧ k < σ 1 4))), qThr1_012 _, ?_, trivial, (c_X11_when hw9.T hR hM hk).imp (zIm.trans (zGd.e1 hR (fun z => qThr1_f (by omega)) (fun h0 => (pu_Y (fun q C' h => zPu.A h)).trans (zYp.ep zEb zEb (qThr1_t (by omega))))) (zEp.eg hw9 hr _ _ _ _)), fun lay' nx' C0 hRl hSl => (m_X12_when hRl hSl hr.js hM.ol hk).imp (zRf.X (fun τ h => h.x.z))⟩
  exact fun z => (if_pos (qThr1_h z)).symm
theorem p_worst (hw9 : Wd lay x y nx C σ) (hr : Rel lay x C s σ)  : zPair G lay x y nx C s σ KX11_worst 8 [] (0, 0) KX12_worst 68 zEb zEb (fun k _ => k = 0) := by
  have hR := hr.now
  have hN := hR.1
  have hM := hr.oc
  refine ⟨0, _, _, zScz (zset σ 0 0 (0)), Or.inl rfl, ?_, rfl, (c_X11_worst hw9.T hR hM).imp (zIm.trans ((pu_Y (fun q C' h => zPu.F hR h)).trans (zYp.ep zEb zEb rfl)) (zEp.eg hw9 hr _ _ _ _)), fun lay' nx' C0 hRl hSl => (m_X12_worst hRl hSl hr.js hM.ol).imp (zRf.X (fun τ h => h.x.z))⟩
  exact fun _ => rfl
theorem p_best (hw9 : Wd lay x y nx C σ) (hr : Rel lay x C s σ) {n : Int} (hn : zin n) : zPair G lay x y nx C s σ KX11_best 8 [zI n] (1, 6) KX12_best 71 zEb zEb (fun _ _ => True) := by
  have hR := hr.now
  have hN := hR.1
  have hM := hr.oc
  refine ⟨if n = -1 ∨ 0 ≤ n ∧ n < 12 then 0 else 1, _, _, zScz (zset σ 0 0 (if n = -1 ∨ 0 ≤ n ∧ n < 12 then 0 else 1)), ite_012 _, ?_, trivial, (c_X11_best hw9.T hR hM hn).imp (zIm.trans (zGd.e1 hR (fun z => if_neg (by omega)) (fun h0 => (pu_Y (fun q C' h => zPu.Pd h)).trans (zYp.ep zEb zEb (if_pos (by omega))))) (zEp.eg hw9 hr _ _ _ _)), fun lay' nx' C0 hRl hSl => (m_X12_best hRl hSl hr.js hM.ol hn).imp (zRf.X (fun τ h => h.z))⟩
  exact fun z => (if_pos (ite_h z)).symm
theorem p_shower (hw9 : Wd lay x y nx C σ) (hr : Rel lay x C s σ) {h w : Int} (hh : zin h) (hw : w = 0 ∨ w = 1) : zPair G lay x y nx C s σ KX11_shower 8 [zI h, zI w] (1, 6) KX12_shower 69 zEa zEa (fun _ _ => True) := by
  have hR := hr.now
  have hN := hR.1
  have hM := hr.oc
  refine ⟨if 0 ≤ h ∧ h ≤ 40 then 0 else 1, _, _, zScz (zset σ 0 0 (if 0 ≤ h ∧ h ≤ 40 then 0 else 1)), ite_012 _, ?_, trivial, (c_X11_shower hw9.T hR hM hh hw).imp (zIm.trans (zGd.e1 hR (fun z => if_neg (by omega)) (fun h0 => (pu_Y (fun q C' h => zPu.F hR h)).trans (zYp.ep zEa zEa (if_pos (by omega))))) (zEp.eg hw9 hr _ _ _ _)), fun lay' nx' C0 hRl hSl => (m_X12_shower hRl hSl hr.js hM.ol hh hw).imp (zRf.X (fun τ h => h.x.z))⟩
  exact fun z => (if_pos (ite_h z)).symm
theorem p_haste (hw9 : Wd lay x y nx C σ) (hr : Rel lay x C s σ) {k : Int} (hk : zin k) : zPair G lay x y nx C s σ KX11_haste 3 [zI k] (0, 0) KX12_haste 3 zEb zEb (fun k _ => k = 0) := by
  have hR := hr.now
  have hN := hR.1
  have hM := hr.oc
  refine ⟨0, _, _, zScz (zset σ 0 0 (0)), Or.inl rfl, ?_, rfl, (c_X11_haste hw9.T hN hM hk).imp (zIm.trans ((pu_R hR).trans (zYp.ep zEb zEb rfl)) (zEp.eg hw9 hr _ _ _ _)), fun lay' nx' C0 hRl hSl => (m_X12_haste hRl hM.ol.1 hk).imp (zRf.R hr.js)⟩
  exact fun _ => rfl
theorem p_windows (hw9 : Wd lay x y nx C σ) (hr : Rel lay x C s σ)  : zPair G lay x y nx C s σ KX11_windows 3 [] (0, 0) KX12_windows 3 zEb zEb (fun k _ => k = 0) := by
  have hR := hr.now
  have hN := hR.1
  have hM := hr.oc
  refine ⟨0, _, _, zScz (zset σ 0 0 (0)), Or.inl rfl, ?_, rfl, (c_X11_windows hw9.T hN hM).imp (zIm.trans ((pu_R hR).trans (zYp.ep zEb zEb rfl)) (zEp.eg hw9 hr _ _ _ _)), fun lay' nx' C0 hRl hSl => (m_X12_windows hRl hM.ol.1).imp (zRf.R hr.js)⟩
  exact fun _ => rfl
theorem p_posts (hw9 : Wd lay x y nx C σ) (hr : Rel lay x C s σ) {n : Int} (hn : zin n) : zPair G lay x y nx C s σ KX11_posts 8 [zI n] (1, 6) KX12_posts 3 zEb zEb (fun _ _ => True) := by
  have hR := hr.now
  have hN := hR.1
  have hM := hr.oc
  refine ⟨if n = -1 ∨ 0 ≤ n ∧ n < σ 1 3 then 0 else 1, _, _, zScz (zset σ 0 0 (if n = -1 ∨ 0 ≤ n ∧ n < σ 1 3 then 0 else 1)), ite_012 _, ?_, trivial, (c_X11_posts hw9.T hN hM hn).imp (zIm.trans (zGd.e1 hR (fun z => if_neg (by omega)) (fun h0 => (pu_Z (fun q h => zPu.Far hR (fun i hi => h i (by omega)))).trans (zYp.ep zEb zEb (if_pos (by omega))))) (zEp.eg hw9 hr _ _ _ _)), fun lay' nx' C0 hRl hSl => (m_X12_posts hRl hr.js hM.ol.1 hn).imp (zRf.X (fun τ h => h.z))⟩
  exact fun z => (if_pos (ite_h z)).symm
theorem p_wins (hw9 : Wd lay x y nx C σ) (hr : Rel lay x C s σ) {a : Int} : zPair G lay x y nx C s σ KX11_wins 4 [zI a] (0, 0) KX12_wins 5 zEb zEb (fun k _ => k = 0) := by
  have hR := hr.now
  have hN := hR.1
  have hM := hr.oc
  refine ⟨0, _, _, zScz (zset σ 0 0 (0)), Or.inl rfl, ?_, rfl, (c_X11_wins hw9.T hN hM).imp (zIm.trans ((pu_Z (fun q h => zPu.Far hR (fun i hi => h.1 i (by omega)))).trans (zYp.ep zEb zEb rfl)) (zEp.eg hw9 hr _ _ _ _)), fun lay' nx' C0 hRl hSl => (m_X12_wins hRl hM.ol.1).imp (zRf.R hr.js)⟩
  exact fun _ => rfl
theorem p_swings (hw9 : Wd lay x y nx C σ) (hr : Rel lay x C s σ) {p : Int} (hp : zin p) : zPair G lay x y nx C s σ KX11_swings 9 [zI p] (1, 6) KX12_swings 7 zEb zEb (fun _ _ => True) := by
  have hR := hr.now
  have hN := hR.1
  have hM := hr.oc
  refine ⟨qThr1 (qVoter (σ 1) p), _, _, zScz (zset σ 0 0 (qThr1 (qVoter (σ 1) p))), qThr1_012 _, ?_, trivial, (c_X11_swings hw9.T hN hM hp).imp (zIm.trans (zGd.e1 hR (fun z => qThr1_f (by unfold qVoter; omega)) (fun h0 => (pu_Z (fun q h => zPu.Far hR (fun i hi => h.1 i (by omega)))).trans (zYp.ep zEb zEb (qThr1_t (by unfold qVoter; omega))))) (zEp.eg hw9 hr _ _ _ _)), fun lay' nx' C0 hRl hSl => (m_X12_swings hRl hM.ol.1 hp).imp (zRf.R hr.js)⟩
  exact fun z => (zif_t (qThr1_h z)).symm
theorem p_power (hw9 : Wd lay x y nx C σ) (hr : Rel lay x C s σ) {p : Int} (hp : zin p) : zPair G lay x y nx C s σ KX11_power 9 [zI p] (1, 6) KX12_power 7 zEb zEb (fun _ _ => True) := by
  have hR := hr.now
  have hN := hR.1
  have hM := hr.oc
  refine ⟨qThr1 (qVoter (σ 1) p), _, _, zScz (zset σ 0 0 (qThr1 (qVoter (σ 1) p))), qThr1_012 _, ?_, trivial, (c_X11_power hw9.T hN hM hp).imp (zIm.trans (zGd.e1 hR (fun z => qThr1_f (by unfold qVoter; omega)) (fun h0 => (pu_Z (fun q h => zPu.Far hR (fun i hi => h.1 i (by omega)))).trans (zYp.ep zEb zEb (qThr1_t (by unfold qVoter; omega))))) (zEp.eg hw9 hr _ _ _ _)), fun lay' nx' C0 hRl hSl => (m_X12_power hRl hM.ol.1 hp).imp (zRf.R hr.js)⟩
  exact fun z => (zif_t (qThr1_h z)).symm
theorem p_minimal (hw9 : Wd lay x y nx C σ) (hr : Rel lay x C s σ)  : zPair G lay x y nx C s σ KX11_minimal 4 [] (0, 0) KX12_minimal 7 zEb zEb (fun k _ => k = 0) := by
  have hR := hr.now
  have hN := hR.1
  have hM := hr.oc
  refine ⟨0, _, _, zScz (zset σ 0 0 (0)), Or.inl rfl, ?_, rfl, (c_X11_minimal hw9.T hN hM).imp (zIm.trans ((pu_Z (fun q h => zPu.Far hR (fun i hi => h.1 i (by omega)))).trans (zYp.ep zEb zEb rfl)) (zEp.eg hw9 hr _ _ _ _)), fun lay' nx' C0 hRl hSl => (m_X12_minimal hRl hM.ol.1).imp (zRf.R hr.js)⟩
  exact fun _ => rfl
theorem p_leader (hw9 : Wd lay x y nx C σ) (hr : Rel lay x C s σ)  : zPair G lay x y nx C s σ KX11_leader 5 [] (0, 0) KX12_leader 7 zEb zEb (fun k _ => k = 0) := by
  have hR := hr.now
  have hN := hR.1
  have hM := hr.oc
  refine ⟨0, _, _, zScz (zset σ 0 0 (0)), Or.inl rfl, ?_, rfl, (c_X11_leader hw9.T hN hM).imp (zIm.trans ((pu_Z (fun q h => zPu.Far hR (fun i hi => h.1 i (by omega)))).trans (zYp.ep zEb zEb rfl)) (zEp.eg hw9 hr _ _ _ _)), fun lay' nx' C0 hRl hSl => (m_X12_leader hRl hM.ol.1).imp (zRf.R hr.js)⟩
  exact fun _ => rfl
theorem p_minds (hw9 : Wd lay x y nx C σ) (hr : Rel lay x C s σ) {k : Int} (hk : zin k) : zPair G lay x y nx C s σ KX11_minds 8 [zI k] (1, 6) KX12_minds 70 zEb zEb (fun _ _ => True) := by
  have hR := hr.now
  have hN := hR.1
  have hM := hr.oc
  refine ⟨qThr1 (0 ≤ k ∧ k < σ 1 4), _, _, zScz (zset σ 0 0 (qThr1 (0 ≤ k ∧ k < σ 1 4))), qThr1_012 _, ?_, trivial, (c_X11_minds hw9.T hR hM hk).imp (zIm.trans (zGd.e1 hR (fun z => qThr1_f (by omega)) (fun h0 => (pu_Y (fun q C' h => zPu.F hR h)).trans (zYp.ep zEb zEb (qThr1_t (by omega))))) (zEp.eg hw9 hr _ _ _ _)), fun lay' nx' C0 hRl hSl => (m_X12_minds hRl hSl hr.js hM.ol hk).imp (zRf.X (fun τ h => h.x.z))⟩
  exact fun z => (if_pos (qThr1_h z)).symm
theorem p_bargain (hw9 : Wd lay x y nx C σ) (hr : Rel lay x C s σ) {p o : Int} (hp : zin p) (ho : zin o) : zPair G lay x y nx C s σ KX11_bargain 8 [zI p, zI o] (3, 18) KX12_bargain 70 zEb zEa (fun _ _ => True) := by
  have hR := hr.now
  have hN := hR.1
  have hM := hr.oc
  refine ⟨qThr2 ((0 ≤ p ∧ p < σ 1 3) ∧ 0 ≤ o ∧ o < σ 1 3) (p ≠ o), _, _, zScz (zset σ 0 0 (qThr2 ((0 ≤ p ∧ p < σ 1 3) ∧ 0 ≤ o ∧ o < σ 1 3) (p ≠ o))), (qThr2_012 _ _ (by decide)), ?_, trivial, (c_X11_bargain hw9.T hR hM hp ho).imp (zIm.trans (zGd.e1 hR (fun z => qThr2_1 (by omega)) (fun h0 => zGd.e1 hR (fun z => qThr2_1 (by omega)) (fun h1 => zGd.e2 hR (fun z => qThr2_2 (by omega) z) (fun h2 => (pu_Y (fun q C' h => zPu.F hR h)).trans (zYp.ep zEb zEa (qThr2_0 (by omega) (by first | omega | assumption))))))) (zEp.eg hw9 hr _ _ _ _)), fun lay' nx' C0 hRl hSl => (m_X12_bargain hRl hSl hr.js hM.ol hp ho).imp (zRf.X (fun τ h => h.x.z))⟩
  exact fun z => (if_pos z).symm
theorem p_like (hw9 : Wd lay x y nx C σ) (hr : Rel lay x C s σ) {p o : Int} (hp : zin p) (ho : zin o) : zPair G lay x y nx C s σ KX11_like 8 [zI p, zI o] (3, 18) KX12_like 3 zEb zEa (fun _ _ => True) := by
  have hR := hr.now
  have hN := hR.1
  have hM := hr.oc
  refine ⟨qThr2 ((0 ≤ p ∧ p < σ 1 3) ∧ 0 ≤ o ∧ o < σ 1 3) (p ≠ o), _, _, zScz (zset σ 0 0 (qThr2 ((0 ≤ p ∧ p < σ 1 3) ∧ 0 ≤ o ∧ o < σ 1 3) (p ≠ o))), (qThr2_012 _ _ (by decide)), ?_, trivial, (c_X11_like hw9.T hN hM hp ho).imp (zIm.trans (zGd.e1 hR (fun z => qThr2_1 (by omega)) (fun h0 => zGd.e1 hR (fun z => qThr2_1 (by omega)) (fun h1 => zGd.e2 hR (fun z => qThr2_2 (by omega) z) (fun h2 => (pu_R hR).trans (zYp.ep zEb zEa (qThr2_0 (by omega) (by first | omega | assumption))))))) (zEp.eg hw9 hr _ _ _ _)), fun lay' nx' C0 hRl hSl => (m_X12_like hRl hM.ol.1 hp ho).imp (zRf.R hr.js)⟩
  exact fun z => (if_pos z).symm
theorem p_foes (hw9 : Wd lay x y nx C σ) (hr : Rel lay x C s σ)  : zPair G lay x y nx C s σ KX11_foes 4 [] (0, 0) KX12_foes 3 zEb zEb (fun k _ => k = 0) := by
  have hR := hr.now
  have hN := hR.1
  have hM := hr.oc
  refine ⟨0, _, _, zScz (zset σ 0 0 (0)), Or.inl rfl, ?_, rfl, (c_X11_foes hw9.T hN hM).imp (zIm.trans ((pu_R hR).trans (zYp.ep zEb zEb rfl)) (zEp.eg hw9 hr _ _ _ _)), fun lay' nx' C0 hRl hSl => (m_X12_foes hRl hM.ol.1).imp (zRf.R hr.js)⟩
  exact fun _ => rfl
theorem p_dry (hw9 : Wd lay x y nx C σ) (hr : Rel lay x C s σ) {n : Int} (hn : zin n) : zPair G lay x y nx C s σ KX11_dry 8 [zI n] (1, 6) KX12_dry 5 zEa zEa (fun _ _ => True) := by
  have hR := hr.now
  have hN := hR.1
  have hM := hr.oc
  refine ⟨if 0 ≤ n ∧ n ≤ 12 then 0 else 1, _, _, zScz (zset σ 0 0 (if 0 ≤ n ∧ n ≤ 12 then 0 else 1)), ite_012 _, ?_, trivial, (c_X11_dry hw9.T hN hM hn).imp (zIm.trans (zGd.e1 hR (fun z => if_neg (by omega)) (fun h0 => (pu_Z (fun q h => zPu.W hR hM.I h)).trans (zYp.ep zEa zEa (if_pos (by omega))))) (zEp.eg hw9 hr _ _ _ _)), fun lay' nx' C0 hRl hSl => (m_X12_dry hRl hr.js hM.ol.1 hn).imp (zRf.X (fun τ h => h.x.z))⟩
  exact fun z => (if_pos (ite_h z)).symm
theorem p_drought (hw9 : Wd lay x y nx C σ) (hr : Rel lay x C s σ) {n : Int} (hn : zin n) : zPair G lay x y nx C s σ KX11_drought 8 [zI n] (1, 6) KX12_drought 5 zEa zEa (fun _ _ => True) := by
  have hR := hr.now
  have hN := hR.1
  have hM := hr.oc
  refine ⟨if 0 ≤ n ∧ n ≤ 12 then 0 else 1, _, _, zScz (zset σ 0 0 (if 0 ≤ n ∧ n ≤ 12 then 0 else 1)), ite_012 _, ?_, trivial, (c_X11_drought hw9.T hN hM hn).imp (zIm.trans (zGd.e1 hR (fun z => if_neg (by omega)) (fun h0 => (pu_Z (fun q h => zPu.W hR hM.I h)).trans (zYp.ep zEa zEa (if_pos (by omega))))) (zEp.eg hw9 hr _ _ _ _)), fun lay' nx' C0 hRl hSl => (m_X12_drought hRl hr.js hM.ol.1 hn).imp (zRf.X (fun τ h => h.x.z))⟩
  exact fun z => (if_pos (ite_h z)).symm
theorem p_quorate (hw9 : Wd lay x y nx C σ) (hr : Rel lay x C s σ)  : zPair G lay x y nx C s σ KX11_quorate 2 [] (0, 0) KX12_quorate 3 zEb zEb (fun k _ => k = 0) := by
  have hR := hr.now
  have hN := hR.1
  have hM := hr.oc
  refine ⟨0, _, _, zScz (zset σ 0 0 (0)), Or.inl rfl, ?_, rfl, (c_X11_quorate hw9.T hN hM).imp (zIm.trans ((pu_R hR).trans (zYp.ep zEb zEb rfl)) (zEp.eg hw9 hr _ _ _ _)), fun lay' nx' C0 hRl hSl => (m_X12_quorate hRl hM.ol.1).imp (zRf.R hr.js)⟩
  exact fun _ => rfl
theorem p_enough (hw9 : Wd lay x y nx C σ) (hr : Rel lay x C s σ)  : zPair G lay x y nx C s σ KX11_enough 5 [] (0, 0) KX12_enough 5 zEb zEb (fun k _ => k = 0) := by
  have hR := hr.now
  have hN := hR.1
  have hM := hr.oc
  refine ⟨0, _, _, zScz (zset σ 0 0 (0)), Or.inl rfl, ?_, rfl, (c_X11_enough hw9.T hN hM).imp (zIm.trans ((pu_Z (fun q h => zPu.W hR hM.I h)).trans (zYp.ep zEb zEb rfl)) (zEp.eg hw9 hr _ _ _ _)), fun lay' nx' C0 hRl hSl => (m_X12_enough hRl hr.js hM.ol.1).imp (zRf.X (fun τ h => h.x.z))⟩
  exact fun _ => rfl
theorem p_rests (hw9 : Wd lay x y nx C σ) (hr : Rel lay x C s σ) {k : Int} (hk : zin k) : zPair G lay x y nx C s σ KX11_rests 8 [zI k] (1, 6) KX12_rests 70 zEb zEb (fun _ _ => True) := by
  have hR := hr.now
  have hN := hR.1
  have hM := hr.oc
  refine ⟨qThr1 (0 ≤ k ∧ k < σ 1 4), _, _, zScz (zset σ 0 0 (qThr1 (0 ≤ k ∧ k < σ 1 4))), qThr1_012 _, ?_, trivial, (c_X11_rests hw9.T hR hM hk).imp (zIm.trans (zGd.e1 hR (fun z => qThr1_f (by omega)) (fun h0 => (pu_Y (fun q C' h => zPu.F hR h)).trans (zYp.ep zEb zEb (qThr1_t (by omega))))) (zEp.eg hw9 hr _ _ _ _)), fun lay' nx' C0 hRl hSl => (m_X12_rests hRl hSl hr.js hM.ol hk).imp (zRf.X (fun τ h => h.x.z))⟩
  exact fun z => (if_pos (qThr1_h z)).symm
theorem p_tabled (hw9 : Wd lay x y nx C σ) (hr : Rel lay x C s σ)  : zPair G lay x y nx C s σ KX11_tabled 2 [] (0, 0) KX12_tabled 1 zEb zEb (fun k _ => k = 0) := by
  have hR := hr.now
  have hN := hR.1
  have hM := hr.oc
  refine ⟨0, _, _, zScz (zset σ 0 0 (0)), Or.inl rfl, ?_, rfl, (c_X11_tabled hw9.T hN hM).imp (zIm.trans ((pu_R hR).trans (zYp.ep zEb zEb rfl)) (zEp.eg hw9 hr _ _ _ _)), fun lay' nx' C0 hRl hSl => (m_X12_tabled hRl hM.ol.1).imp (zRf.R hr.js)⟩
  exact fun _ => rfl
theorem p_soaked (hw9 : Wd lay x y nx C σ) (hr : Rel lay x C s σ)  : zPair G lay x y nx C s σ KX11_soaked 5 [] (0, 0) KX12_soaked 67 zEb zEb (fun k _ => k = 0) := by
  have hR := hr.now
  have hN := hR.1
  have hM := hr.oc
  refine ⟨0, _, _, zScz (zset σ 0 0 (0)), Or.inl rfl, ?_, rfl, (c_X11_soaked hw9.T hR hM).imp (zIm.trans ((pu_Y (fun q C' h => zPu.F hR h)).trans (zYp.ep zEb zEb rfl)) (zEp.eg hw9 hr _ _ _ _)), fun lay' nx' C0 hRl hSl => (m_X12_soaked hRl hSl hr.js hM.ol).imp (zRf.X (fun τ h => h.x.z))⟩
  exact fun _ => rfl
theorem p_twins (hw9 : Wd lay x y nx C σ) (hr : Rel lay x C s σ)  : zPair G lay x y nx C s σ KX11_twins 1 [] (0, 0) KX12_twins 2 zEb zEb (fun k _ => k = 0) := by
  have hR := hr.now
  have hN := hR.1
  have hM := hr.oc
  refine ⟨0, _, _, zScz (zset σ 0 0 (0)), Or.inl rfl, ?_, rfl, (c_X11_twins hw9.T hN hM).imp (zIm.trans ((pu_R hR).trans (zYp.ep zEb zEb rfl)) (zEp.eg hw9 hr _ _ _ _)), fun lay' nx' C0 hRl hSl => (m_X12_twins hRl hM.ol.1).imp (zRf.R hr.js)⟩
  exact fun _ => rfl
theorem p_richest (hw9 : Wd lay x y nx C σ) (hr : Rel lay x C s σ)  : zPair G lay x y nx C s σ KX11_richest 1 [] (0, 0) KX12_richest 3 zEb zEb (fun k _ => k = 0) := by
  have hR := hr.now
  have hN := hR.1
  have hM := hr.oc
  refine ⟨0, _, _, zScz (zset σ 0 0 (0)), Or.inl rfl, ?_, rfl, (c_X11_richest hw9.T hN hM).imp (zIm.trans ((pu_R hR).trans (zYp.ep zEb zEb rfl)) (zEp.eg hw9 hr _ _ _ _)), fun lay' nx' C0 hRl hSl => (m_X12_richest hRl hM.ol.1).imp (zRf.R hr.js)⟩
  exact fun _ => rfl
theorem p_trial (hw9 : Wd lay x y nx C σ) (hr : Rel lay x C s σ) {n w : Int} (hn : zin n) (hw : w = 0 ∨ w = 1) : zPair G lay x y nx C s σ KX11_trial 8 [zI n, zI w] (1, 6) KX12_trial 70 zEa zEa (fun _ _ => True) := by
  have hR := hr.now
  have hN := hR.1
  have hM := hr.oc
  refine ⟨if 0 ≤ n ∧ n ≤ 60 then 0 else 1, _, _, zScz (zset σ 0 0 (if 0 ≤ n ∧ n ≤ 60 then 0 else 1)), ite_012 _, ?_, trivial, (c_X11_trial hw9.T hR hM hn hw).imp (zIm.trans (zGd.e1 hR (fun z => if_neg (by omega)) (fun h0 => (pu_Y (fun q C' h => zPu.Tr hR h)).trans (zYp.ep zEa zEa (if_pos (by omega))))) (zEp.eg hw9 hr _ _ _ _)), fun lay' nx' C0 hRl hSl => (m_X12_trial hRl hSl hr.js hM.ol hn hw).imp (zRf.X (fun τ h => h))⟩
  exact fun z => (if_pos (ite_h z)).symm
theorem p_span (hw9 : Wd lay x y nx C σ) (hr : Rel lay x C s σ) {n w : Int} (hn : zin n) (hw : w = 0 ∨ w = 1) : zPair G lay x y nx C s σ KX11_span 8 [zI n, zI w] (1, 6) KX12_span 70 zEa zEa (fun _ _ => True) := by
  have hR := hr.now
  have hN := hR.1
  have hM := hr.oc
  refine ⟨if 0 ≤ n ∧ n ≤ 60 then 0 else 1, _, _, zScz (zset σ 0 0 (if 0 ≤ n ∧ n ≤ 60 then 0 else 1)), ite_012 _, ?_, trivial, (c_X11_span hw9.T hR hM hn hw).imp (zIm.trans (zGd.e1 hR (fun z => if_neg (by omega)) (fun h0 => (pu_Y (fun q C' h => zPu.Tr hR h)).trans (zYp.ep zEa zEa (if_pos (by omega))))) (zEp.eg hw9 hr _ _ _ _)), fun lay' nx' C0 hRl hSl => (m_X12_span hRl hSl hr.js hM.ol hn hw).imp (zRf.X (fun τ h => h))⟩
  exact fun z => (if_pos (ite_h z)).symm
theorem p_led (hw9 : Wd lay x y nx C σ) (hr : Rel lay x C s σ) {k w : Int} (hk : zin k) (hw : w = 0 ∨ w = 1) : zPair G lay x y nx C s σ KX11_led 8 [zI k, zI w] (1, 6) KX12_led 3 zEb zEb (fun _ _ => True) := by
  have hR := hr.now
  have hN := hR.1
  have hM := hr.oc
  refine ⟨if 0 ≤ k ∧ k < σ 1 4 then 0 else 1, _, _, zScz (zset σ 0 0 (if 0 ≤ k ∧ k < σ 1 4 then 0 else 1)), ite_012 _, ?_, trivial, (c_X11_led hw9.T hN hM hk hw).imp (zIm.trans (zGd.e1 hR (fun z => if_neg (by omega)) (fun h0 => (pu_R hR).trans (zYp.ep zEb zEb (if_pos (by omega))))) (zEp.eg hw9 hr _ _ _ _)), fun lay' nx' C0 hRl hSl => (m_X12_led hRl hM.ol.1 hk hw).imp (zRf.R hr.js)⟩
  exact fun z => (if_pos (ite_h z)).symm
theorem p_log (hw9 : Wd lay x y nx C σ) (hr : Rel lay x C s σ) {a w : Int} (ha : zin a) (hw : zin w) : zPair G lay x y nx C s σ KX11_log 7 [zI a, zI w] (1, 6) KX12_log 2 zEn zEn (fun _ _ => True) := by
  have hR := hr.now
  have hN := hR.1
  have hM := hr.oc
  refine ⟨if 0 ≤ w ∧ w ≤ 4 then 0 else 1, _, _, zScz (zset σ 0 0 (if 0 ≤ w ∧ w ≤ 4 then 0 else 1)), ite_012 _, ?_, trivial, (c_X11_log hw9.T hN hM ha hw).imp (zIm.trans (zGd.e1 hR (fun z => if_neg (by omega)) (fun h0 => (pu_R hR).trans (zYp.ep zEn zEn (if_pos (by omega))))) (zEp.eg hw9 hr _ _ _ _)), fun lay' nx' C0 hRl hSl => (m_X12_log hRl hM.ol.1 ha hw).imp (zRf.R hr.js)⟩
  exact fun z => (if_pos (ite_h z)).symm
theorem p_count (hw9 : Wd lay x y nx C σ) (hr : Rel lay x C s σ) {w : Int} (hw : zin w) : zPair G lay x y nx C s σ KX11_count 2 [zI w] (0, 0) KX12_count 3 zEb zEb (fun k _ => k = 0) := by
  have hR := hr.now
  have hN := hR.1
  have hM := hr.oc
  refine ⟨0, _, _, zScz (zset σ 0 0 (0)), Or.inl rfl, ?_, rfl, (c_X11_count hw9.T hR hM hw).imp (zIm.trans ((pu_R hR).trans (zYp.ep zEb zEb rfl)) (zEp.eg hw9 hr _ _ _ _)), fun lay' nx' C0 hRl hSl => (m_X12_count hRl hM.ol.1 hw).imp (zRf.R hr.js)⟩
  exact fun _ => by rw [hr.pa.2.1]; rfl
end ZPAIR
