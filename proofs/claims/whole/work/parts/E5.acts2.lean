/-! The acts, of both. -/
theorem zRem.sets {σ : zMem} {w v : Int} (ha : 0 ≤ σ 0 6 ∧ σ 0 6 ≤ 12) (hJ : zJs σ) (hw : 0 ≤ w ∧ w < 426) : zRem σ (qSets σ w v) ∧ qSets σ w v 1 = zput (σ 1) w v ∧ qSets σ w v 0 0 = 0 := by
  obtain ⟨r, r1, r0⟩ := zRem.rem ha hJ
  unfold qSets
  refine ⟨r.row1 (fun o ho => zset_o ho) (fun j hj => zset_f (by omega)) (r.js.set (by decide) (fun z => absurd z (by decide))), ?_, by rw [zset_o (by decide)]; exact r0⟩
  rw [zset_row, r1]
theorem zRem.table {σ : zMem} {k h : Int} (ha : 0 ≤ σ 0 6 ∧ σ 0 6 ≤ 12) (hJ : zJs σ) (hP : zPap (σ 1)) (hk : k ≠ -1) (hh : 0 ≤ h ∧ h < 12) : zRem σ (qTable σ k h) ∧ qTable σ k h 1 = qPapM (σ 1) k h ∧ qTable σ k h 0 0 = 0 := by
  obtain ⟨r, r1, r0⟩ := zRem.sets (w := 114 + h) (v := k) ha hJ ⟨by omega, by omega⟩
  have hq := qHourOf_q hP hk
  have hsp := qFrom_sp (p := fun a => σ 1 (114 + a) = k) (k := 0) (n := 12) (by decide)
  unfold qHourOf at hq
  rw [← hq] at hsp
  unfold qTable qPapM
  by_cases c : qstands (σ 1) k 12 = -1 ∨ qstands (σ 1) k 12 = h
  · rw [if_pos c, if_pos c]; exact ⟨r, r1, r0⟩
  · rw [if_neg c, if_neg c]
    have c2 : 0 ≤ qstands (σ 1) k 12 ∧ qstands (σ 1) k 12 < 12 := by
      rcases hsp with z | z
      · exact absurd (Or.inl z.1) c
      · exact ⟨z.1, z.2.1⟩
    exact ⟨r.row1 (fun o ho => zset_o ho) (fun j hj => zset_f (by omega)) (r.js.set (by decide) (fun z => absurd z (by decide))), by rw [zset_row, r1], by rw [zset_o (by decide)]; exact r0⟩
theorem zOC.pl {M : Int → Int} {p v : Int} (h : zOC M) (hp : 0 ≤ p ∧ p < 7) (hv : 0 ≤ v ∧ v < 8) : zOC (zput M (46 + 4 * p + 0) v) :=
  h.m (h.ol.put (Or.inr (by omega)) (by omega) (fun _ _ => Or.inr (by rw [zBd_U hp ⟨by decide, by decide⟩]; exact (⟨hv.1, by omega⟩ : (0 : Int) ≤ v ∧ v ≤ 7)))) (fun j hj => zput_ne (by omega))
theorem zOC.se {M : Int → Int} {p v : Int} (h : zOC M) (hp : 0 ≤ p ∧ p < 7) (hv : 0 ≤ v ∧ v ≤ 20) : zOC (zput M (46 + 4 * p + 1) v) :=
  h.m (h.ol.put (Or.inr (by omega)) (by omega) (fun _ _ => Or.inr (by rw [zBd_U hp ⟨by decide, by decide⟩]; exact (⟨hv.1, hv.2⟩ : (0 : Int) ≤ v ∧ v ≤ 20)))) (fun j hj => zput_ne (by omega))
theorem zOC.ha {M : Int → Int} {p v : Int} (h : zOC M) (hp : 0 ≤ p ∧ p < 7) (hv : v = 0 ∨ v = 1) : zOC (zput M (46 + 4 * p + 2) v) :=
  h.m (h.ol.put (Or.inr (by omega)) (by omega) (fun _ _ => Or.inr (by rw [zBd_U hp ⟨by decide, by decide⟩]; exact (⟨by omega, by omega⟩ : (0 : Int) ≤ v ∧ v ≤ 1)))) (fun j hj => zput_ne (by omega))
theorem zOC.ou {M : Int → Int} {p v : Int} (h : zOC M) (hp : 0 ≤ p ∧ p < 7) (hv : v = 0 ∨ v = 1) : zOC (zput M (46 + 4 * p + 3) v) :=
  h.m (h.ol.put (Or.inr (by omega)) (by omega) (fun _ _ => Or.inr (by rw [zBd_U hp ⟨by decide, by decide⟩]; exact (⟨by omega, by omega⟩ : (0 : Int) ≤ v ∧ v ≤ 1)))) (fun j hj => zput_ne (by omega))
theorem zOC.fo {M : Int → Int} {k v : Int} (h : zOC M) (hk : 0 ≤ k ∧ k < 8) : zOC (zput M (74 + 5 * k + 3) v) :=
  h.m (h.ol.fors hk) (fun j hj => zput_ne (by omega))
theorem zOC.st {M : Int → Int} {k : Int} (h : zOC M) (hk : 0 ≤ k ∧ k < 8) : zOC (zput M (74 + 5 * k + 4) 0) :=
  h.m (h.ol.put (Or.inr (by omega)) (by omega) (fun _ _ => Or.inr (by rw [zBd_V hk ⟨by decide, by decide⟩]; exact (by decide : (0 : Int) ≤ 0 ∧ (0 : Int) ≤ 3)))) (fun j hj => zput_ne (by omega))
/-- another paper -/
theorem zOC.paper {M M' : Int → Int} (h : zOC M) (e : ∀ j, ¬ (114 ≤ j ∧ j < 126) → M' j = M j) (ho : zOL M') (hp : zPap M') (ha : ∀ t, 0 ≤ t → t < 12 → M' (114 + t) < M 4) : zOC M' := by
  refine ⟨ho, hp, fun k k0 k1 => ?_, fun t t0 t1 => ?_⟩
  · rw [e 4 (by omega)] at k1
    have hm := h.I.m4
    rw [e 3 (by omega), e _ (by omega)]
    exact h.mv k k0 k1
  · rw [e 4 (by omega)]
    exact ha t t0 t1
theorem zOC.clr {M : Int → Int} {t : Int} (h : zOC M) (ht : 0 ≤ t ∧ t < 12) : zOC (zput M (114 + t) (-1)) := by
  have hm := h.I.m4
  have hv : ∀ a, zput M (114 + t) (-1) (114 + a) = if a = t then -1 else M (114 + a) := fun a => by
    unfold zput
    by_cases c : a = t
    · rw [if_pos c, if_pos (by omega)]
    · rw [if_neg c, if_neg (by omega)]
  refine h.paper (fun j hj => zput_ne (by omega)) (h.ol.put (Or.inr (by omega)) (by omega) (fun _ _ => Or.inr (by rw [zBd_P ht]; exact (by decide : (-1 : Int) ≤ -1 ∧ (-1 : Int) ≤ 7)))) ?_ ?_
  · intro a b a0 a1 b0 b1 e ne
    rw [hv, hv] at e
    rw [hv] at ne
    have := h.pap a b a0 a1 b0 b1
    by_cases ca : a = t
    · rw [if_pos ca] at ne; exact absurd rfl ne
    · rw [if_neg ca] at e ne
      by_cases cb : b = t
      · rw [if_pos cb] at e; exact absurd e ne
      · rw [if_neg cb] at e; exact this e ne
  · intro a a0 a1
    rw [hv]
    have := h.pa a a0 a1
    split <;> omega
theorem zOC.tab {M : Int → Int} {k t : Int} (h : zOC M) (hk : 0 ≤ k ∧ k < M 4) (ht : 0 ≤ t ∧ t < 12) : zOC (qPapM M k t) := by
  have hm := h.I.m4
  have hq := qHourOf_q h.pap (k := k) (by omega)
  have hsp := qFrom_sp (p := fun a => M (114 + a) = k) (k := 0) (n := 12) (by decide)
  unfold qHourOf at hq
  rw [← hq] at hsp
  have hv : ∀ a, 0 ≤ a → a < 12 → qPapM M k t (114 + a) = if a = t then k else if M (114 + a) = k then -1 else M (114 + a) := by
    intro a a0 a1
    unfold qPapM
    by_cases c : qstands M k 12 = -1 ∨ qstands M k 12 = t
    · rw [if_pos c]
      unfold zput
      by_cases ca : a = t
      · rw [if_pos (by omega), if_pos ca]
      · rw [if_neg (by omega), if_neg ca]
        by_cases cb : M (114 + a) = k
        · exfalso
          rcases hsp with z | ⟨z0, z1, z2, z3⟩
          · exact z.2 a a0 a1 cb
          · have := h.pap a _ a0 a1 z0 z1 (cb.trans z2.symm) (by omega)
            omega
        · rw [if_neg cb]
    · rw [if_neg c]
      rcases hsp with z | ⟨z0, z1, z2, z3⟩
      · exact absurd (Or.inl z.1) c
      · unfold zput
        by_cases ca : a = t
        · rw [if_neg (by omega), if_pos (by omega), if_pos ca]
        · rw [if_neg ca]
          by_cases cb : M (114 + a) = k
          · have := h.pap a _ a0 a1 z0 z1 (cb.trans z2.symm) (by omega)
            rw [if_pos cb, if_pos (by omega)]
          · rw [if_neg cb]
            have : a ≠ qstands M k 12 := fun e => cb (by rw [e]; exact z2)
            rw [if_neg (by omega), if_neg (by omega)]
  have ho : zOL (qPapM M k t) := by
    have h1 : zOL (zput M (114 + t) k) := h.ol.put (Or.inr (by omega)) (by omega) (fun _ _ => Or.inr (by rw [zBd_P ht]; exact (⟨by omega, by omega⟩ : (-1 : Int) ≤ k ∧ k ≤ 7)))
    unfold qPapM
    by_cases c : qstands M k 12 = -1 ∨ qstands M k 12 = t
    · rw [if_pos c]; exact h1
    · rw [if_neg c]
      rcases hsp with z | ⟨z0, z1, z2, z3⟩
      · exact absurd (Or.inl z.1) c
      · exact h1.put (Or.inr (by omega)) (by omega) (fun _ _ => Or.inr (by rw [zBd_P ⟨z0, z1⟩]; exact (by decide : (-1 : Int) ≤ -1 ∧ (-1 : Int) ≤ 7)))
  refine h.paper (fun j hj => qPapM_o ht hj) ho ?_ ?_
  · intro a b a0 a1 b0 b1 e ne
    rw [hv a a0 a1, hv b b0 b1] at e
    rw [hv a a0 a1] at ne
    have h1 := h.pap a b a0 a1 b0 b1
    by_cases ca : a = t
    · rw [if_pos ca] at e ne
      by_cases cb : b = t
      · omega
      · rw [if_neg cb] at e
        by_cases cc : M (114 + b) = k
        · rw [if_pos cc] at e; omega
        · rw [if_neg cc] at e; exact absurd e.symm cc
    · rw [if_neg ca] at e ne
      by_cases cd : M (114 + a) = k
      · rw [if_pos cd] at ne; exact absurd rfl ne
      · rw [if_neg cd] at e ne
        by_cases cb : b = t
        · rw [if_pos cb] at e; exact absurd e cd
        · rw [if_neg cb] at e
          by_cases cc : M (114 + b) = k
          · rw [if_pos cc] at e; exact absurd e ne
          · rw [if_neg cc] at e; exact h1 e ne
  · intro a a0 a1
    rw [hv a a0 a1]
    have := h.pa a a0 a1
    (repeat' split) <;> omega
theorem zbit_flip {a p : Int} (hp : 0 ≤ p ∧ p < 32) : zbit (zxor a (zshl 1 p)) p = zbi (¬ zbit a p = 1) := by
  have h1 : zbit (zshl 1 p) p = 1 := (zbit_B1 hp.1 hp.2).mpr (by rw [zB_shl1 hp.1 hp.2 (by omega), decide_eq_true_iff]; omega)
  have h2 := zbit_xor (a := a) (c := zshl 1 p) hp
  rcases zbit_01 (zxor a (zshl 1 p)) p with z | z
  · rw [z, zbi_f]
    intro y
    have := h2.mpr (fun w => y (w.mpr h1))
    omega
  · rw [z, zbi_t]
    exact fun y => h2.mp z ⟨fun _ => h1, fun _ => y⟩
theorem Rel.acted {lay : zLay} {x : Int} {C s s' σ τ : zMem} {M' : Int → Int} (h : Rel lay x C s σ) (hz : zActed lay x C s (σ 0 6) (qAct σ) (σ 1) M' s') (h1 : τ 1 = M') (hoc : zOC M') (e : ∀ j, (1 ≤ j ∧ j ≤ 2) ∨ 426 ≤ j → M' j = σ 1 j) (hτ : zRem σ τ) : Rel lay x C s' τ :=
  h.act ⟨by rw [h1]; exact hz.1, by rw [h1, hz.2.1]; exact h.now.2.m0 e⟩ (by rw [h1]; exact hoc) (zStk.refl _ _) hz.2.2.1 hz.2.2.2.1 hz.2.2.2.2 hτ
/-- an end that changes by R where k is 0, and else changes nothing -/
def zEc (lay : zLay) (x nx : Int) (C s : zMem) (k v : Int) (E1 E2 : String) (R : zMem → zMem → Prop) : zQ := fun o l c n => ∃ s' C' : zMem, c = tC x s' C' ∧ l = lay ∧ n = nx ∧ o = zKo k v E1 E2 ∧ (k = 0 → R s' C') ∧ (k ≠ 0 → s' = s ∧ C' = C)
theorem zGd.a1 {P : Prop} {lay : zLay} {x nx : Int} {C s : zMem} {k v : Int} {E1 E2 : String} {R : zMem → zMem → Prop} {Q : zQ} (hn : ¬ P → k = 1) (hq : P → zIm Q (zEc lay x nx C s k v E1 E2 R)) : zIm (zGd P E1 lay (tC x s C) nx Q) (zEc lay x nx C s k v E1 E2 R) := by
  rintro o l c n (⟨h1, h2⟩ | ⟨h1, h2, h3, h4, h5⟩)
  · exact hq h1 o l c n h2
  · have hk := hn h1
    exact ⟨s, C, h4, h3, h5, by rw [h2, hk]; rfl, fun z => by omega, fun _ => ⟨rfl, rfl⟩⟩
theorem zGd.a2 {P : Prop} {lay : zLay} {x nx : Int} {C s : zMem} {k v : Int} {E1 E2 : String} {R : zMem → zMem → Prop} {Q : zQ} (hn : ¬ P → k = 2) (hq : P → zIm Q (zEc lay x nx C s k v E1 E2 R)) : zIm (zGd P E2 lay (tC x s C) nx Q) (zEc lay x nx C s k v E1 E2 R) := by
  rintro o l c n (⟨h1, h2⟩ | ⟨h1, h2, h3, h4, h5⟩)
  · exact hq h1 o l c n h2
  · have hk := hn h1
    exact ⟨s, C, h4, h3, h5, by rw [h2, hk]; rfl, fun z => by omega, fun _ => ⟨rfl, rfl⟩⟩
theorem zEc.Y {lay : zLay} {x nx : Int} {C s : zMem} {k v : Int} {E1 E2 : String} {R : zMem → zMem → Prop} (hk : k = 0) : zIm (zY' (some (zI v)) R lay nx x) (zEc lay x nx C s k v E1 E2 R) := by
  rintro o l c n ⟨s', C', h1, h2, h3, h4, h5⟩
  exact ⟨s', C', h4, h3, h5, by rw [h2, hk]; rfl, fun _ => h1, fun z => absurd hk z⟩
/-- what the reference has come to: τ0 where k is 0, and else nothing but its word of the throw -/
def zAc (σ τ0 : zMem) (k : Int) (τ : zMem) : Prop := (k = 0 → τ = τ0) ∧ (k ≠ 0 → τ = zset σ 0 0 k)
theorem zEc.eg {lay : zLay} {x y nx : Int} {C s σ τ0 : zMem} {k v : Int} {E1 E2 : String} {R : zMem → zMem → Prop} (hw : Wd lay x y nx C σ) (hr : Rel lay x C s σ) (he : k = 0 → ∀ q C', R q C' → zStk C (s (0 + 2) 10) C' ∧ Rel lay x C' q τ0) : zIm (zEc lay x nx C s k v E1 E2 R) (zEg lay x y nx C σ k v E1 E2 (zAc σ τ0 k)) := by
  rintro o l c n ⟨s', C', h4, h3, h5, h2, h6, h7⟩
  subst h3
  subst h5
  by_cases hk : k = 0
  · obtain ⟨g1, g2⟩ := he hk s' C' (h6 hk)
    obtain ⟨w1, w2⟩ := hw.stk hr.now.2 g1
    exact ⟨s', C', h4, fun _ _ => rfl, Int.le_refl _, h2, w1, fun o _ ho => w2 o ho, fun τ hτ => by rw [hτ.1 hk]; exact g2⟩
  · obtain ⟨e1, e2⟩ := h7 hk
    subst e1
    subst e2
    exact ⟨_, _, h4, fun _ _ => rfl, Int.le_refl _, h2, hw, fun _ _ _ => rfl, fun τ hτ => by rw [hτ.2 hk]; exact hr.ref (zScz.refl (hr.js.set (by decide) (fun _ => Or.inl rfl)))⟩
theorem zRf.A {lay : zLay} {y nx k v : Int} {C0 σ τ0 τf : zMem} (h0 : k = 0 → τf = τ0 ∧ τ0 0 0 = 0) (h1 : k ≠ 0 → τf = zset σ 0 0 k) : zIm (zR (some (zI v)) lay (rC y τf C0) nx) (zRf lay y nx C0 k v (zAc σ τ0 k)) := by
  rintro o l c n ⟨g1, g2, g3, g4⟩
  refine ⟨τf, g3, g2, g4, g1, ?_, fun z => (h0 z).1, h1⟩
  by_cases hk : k = 0
  · rw [(h0 hk).1, (h0 hk).2, hk]
  · rw [h1 hk]; exact zset_eq
theorem pu_ZY {lay : zLay} {x nx v : Int} {C : zMem} {P : zMem → Prop} : zIm (zZ' (some (zI v)) P lay C nx x) (zY' (some (zI v)) (fun q C' => C' = C ∧ P q) lay nx x) := fun o l c n h => h
section ZACT
variable {G : zG} {lay : zLay} {x y nx : Int} {C s σ : zMem}
theorem p_seat (hw9 : Wd lay x y nx C σ) (hr : Rel lay x C s σ) {p n : Int} (hp : zin p) (hn : zin n) : zPair G lay x y nx C s σ KX11_seat 8 [zI p, zI n] (2, 12) KX12_seat 3 zEb zEa (fun _ _ => True) := by
  have hR := hr.now
  have hM := hr.oc
  have hm3 := hM.I.m3
  have hm4 := hM.I.m4
  have hb6 := hr.pa.2.2.1
  have key : (qThr2 (0 ≤ p ∧ p < σ 1 3) (0 ≤ n ∧ n ≤ 20)) = 0 → zRem σ (qSets σ (46 + 4 * p + 1) n) ∧ (qSets σ (46 + 4 * p + 1) n) 0 0 = 0 ∧ ∀ q, zActed lay x C s (σ 0 6) (qAct σ) (σ 1) (zput (σ 1) (46 + 4 * p + 1) n) q → Rel lay x C q (qSets σ (46 + 4 * p + 1) n) := by
    intro hk0
    have hc := qThr2_h hk0
    obtain ⟨h0, h1⟩ := hc
    obtain ⟨r, r1, r0⟩ := zRem.sets (w := 46 + 4 * p + 1) hb6 hr.js ⟨by omega, by omega⟩
    exact ⟨r, r0, fun q hq => hr.acted hq r1 (hM.se ⟨h0.1, by omega⟩ h1) (fun j hj => zput_ne (by omega)) r⟩
  refine ⟨qThr2 (0 ≤ p ∧ p < σ 1 3) (0 ≤ n ∧ n ≤ 20), _, _, zAc σ (qSets σ (46 + 4 * p + 1) n) (qThr2 (0 ≤ p ∧ p < σ 1 3) (0 ≤ n ∧ n ≤ 20)), (qThr2_012 _ _ (by decide)), ?_, trivial, (c_X11_seat hw9.T hR.1 hR.2 hM hr.pa hp hn).imp (zIm.trans (zGd.a1 (fun z => qThr2_1 (by omega)) (fun h0 => zGd.a2 (fun z => qThr2_2 (by omega) z) (fun h1 => pu_ZY.trans (zEc.Y (qThr2_0 (by omega) (by first | omega | assumption)))))) (zEc.eg hw9 hr (fun z q C' h => ⟨by rw [h.1]; exact zStk.refl _ _, by rw [h.1]; exact (key z).2.2 q h.2⟩))), fun lay' nx' C0 hRl hSl => (m_X12_seat hRl hb6 hp hn hM.I.m3).imp (zRf.A (fun z => ⟨(if_pos z), (key z).2.1⟩) (fun z => if_neg z))⟩
  exact fun z => (if_pos z).symm
theorem p_walk (hw9 : Wd lay x y nx C σ) (hr : Rel lay x C s σ) {p n : Int} (hp : zin p) (hn : zin n) : zPair G lay x y nx C s σ KX11_walk 8 [zI p, zI n] (2, 12) KX12_walk 3 zEb zEb (fun _ _ => True) := by
  have hR := hr.now
  have hM := hr.oc
  have hm3 := hM.I.m3
  have hm4 := hM.I.m4
  have hb6 := hr.pa.2.2.1
  have key : (if (0 ≤ p ∧ p < σ 1 3) ∧ 0 ≤ n ∧ n ≤ 7 then (0 : Int) else 1) = 0 → zRem σ (qSets σ (46 + 4 * p + 0) n) ∧ (qSets σ (46 + 4 * p + 0) n) 0 0 = 0 ∧ ∀ q, zActed lay x C s (σ 0 6) (qAct σ) (σ 1) (zput (σ 1) (46 + 4 * p + 0) n) q → Rel lay x C q (qSets σ (46 + 4 * p + 0) n) := by
    intro hk0
    have hc := ite_h hk0
    obtain ⟨h0, h1⟩ := hc
    have h1 : 0 ≤ n ∧ n < 8 := by omega
    obtain ⟨r, r1, r0⟩ := zRem.sets (w := 46 + 4 * p + 0) hb6 hr.js ⟨by omega, by omega⟩
    exact ⟨r, r0, fun q hq => hr.acted hq r1 (hM.pl ⟨h0.1, by omega⟩ h1) (fun j hj => zput_ne (by omega)) r⟩
  refine ⟨if (0 ≤ p ∧ p < σ 1 3) ∧ 0 ≤ n ∧ n ≤ 7 then (0 : Int) else 1, _, _, zAc σ (qSets σ (46 + 4 * p + 0) n) (if (0 ≤ p ∧ p < σ 1 3) ∧ 0 ≤ n ∧ n ≤ 7 then (0 : Int) else 1), ite_012 _, ?_, trivial, (c_X11_walk hw9.T hR.1 hR.2 hM hr.pa hp hn).imp (zIm.trans (zGd.a1 (fun z => if_neg (by omega)) (fun h0 => zGd.a1 (fun z => if_neg (by omega)) (fun h1 => pu_ZY.trans (zEc.Y (if_pos (by omega)))))) (zEc.eg hw9 hr (fun z q C' h => ⟨by rw [h.1]; exact zStk.refl _ _, by rw [h.1]; exact (key z).2.2 q h.2⟩))), fun lay' nx' C0 hRl hSl => (m_X12_walk hRl hb6 hp hn hM.I.m3).imp (zRf.A (fun z => ⟨(if_pos (ite_h z)), (key z).2.1⟩) (fun z => by rw [if_neg (fun y => z (if_pos y)), if_neg (fun y => z (if_pos y))]))⟩
  exact fun z => (if_pos (ite_h z)).symm
theorem p_clear (hw9 : Wd lay x y nx C σ) (hr : Rel lay x C s σ) {h : Int} (hh : zin h) : zPair G lay x y nx C s σ KX11_clear 8 [zI h] (2, 12) KX12_clear 3 zEb zEs (fun _ _ => True) := by
  have hR := hr.now
  have hM := hr.oc
  have hm3 := hM.I.m3
  have hm4 := hM.I.m4
  have hb6 := hr.pa.2.2.1
  have key : (qThr2 (0 ≤ h ∧ h < 12) (¬ σ 1 (114 + h) = -1)) = 0 → zRem σ (qSets σ (114 + h) (-1)) ∧ (qSets σ (114 + h) (-1)) 0 0 = 0 ∧ ∀ q, zActed lay x C s (σ 0 6) (qAct σ) (σ 1) (zput (σ 1) (114 + h) (-1)) q → Rel lay x C q (qSets σ (114 + h) (-1)) := by
    intro hk0
    have hc := qThr2_h hk0
    obtain ⟨h0, h1⟩ := hc
    obtain ⟨r, r1, r0⟩ := zRem.sets (w := 114 + h) hb6 hr.js ⟨by omega, by omega⟩
    exact ⟨r, r0, fun q hq => hr.acted hq r1 (hM.clr h0) (fun j hj => zput_ne (by omega)) r⟩
  refine ⟨qThr2 (0 ≤ h ∧ h < 12) (¬ σ 1 (114 + h) = -1), _, _, zAc σ (qSets σ (114 + h) (-1)) (qThr2 (0 ≤ h ∧ h < 12) (¬ σ 1 (114 + h) = -1)), (qThr2_012 _ _ (by decide)), ?_, trivial, (c_X11_clear hw9.T hR.1 hR.2 hM hr.pa hh).imp (zIm.trans (zGd.a1 (fun z => qThr2_1 (by omega)) (fun h0 => zGd.a2 (fun z => qThr2_2 (by omega) z) (fun h1 => pu_ZY.trans (zEc.Y (qThr2_0 (by omega) (by first | omega | assumption)))))) (zEc.eg hw9 hr (fun z q C' h => ⟨by rw [h.1]; exact zStk.refl _ _, by rw [h.1]; exact (key z).2.2 q h.2⟩))), fun lay' nx' C0 hRl hSl => (m_X12_clear hRl hb6 hh (fun t t0 t1 => by have := hM.I.P8 (t := t) ⟨t0, t1⟩; exact ⟨by omega, by omega⟩)).imp (zRf.A (fun z => ⟨(if_pos z), (key z).2.1⟩) (fun z => if_neg z))⟩
  exact fun z => (if_pos z).symm
theorem p_renew (hw9 : Wd lay x y nx C σ) (hr : Rel lay x C s σ) {k : Int} (hk : zin k) : zPair G lay x y nx C s σ KX11_renew 8 [zI k] (2, 12) KX12_renew 3 zEb zEs (fun _ _ => True) := by
  have hR := hr.now
  have hM := hr.oc
  have hm3 := hM.I.m3
  have hm4 := hM.I.m4
  have hb6 := hr.pa.2.2.1
  have key : (qThr2 (0 ≤ k ∧ k < σ 1 4) (2 ≤ σ 1 (74 + 5 * k + 4))) = 0 → zRem σ (qSets σ (74 + 5 * k + 4) 0) ∧ (qSets σ (74 + 5 * k + 4) 0) 0 0 = 0 ∧ ∀ q, zActed lay x C s (σ 0 6) (qAct σ) (σ 1) (zput (σ 1) (74 + 5 * k + 4) 0) q → Rel lay x C q (qSets σ (74 + 5 * k + 4) 0) := by
    intro hk0
    have hc := qThr2_h hk0
    obtain ⟨h0, h1⟩ := hc
    obtain ⟨r, r1, r0⟩ := zRem.sets (w := 74 + 5 * k + 4) hb6 hr.js ⟨by omega, by omega⟩
    exact ⟨r, r0, fun q hq => hr.acted hq r1 (hM.st ⟨h0.1, by omega⟩) (fun j hj => zput_ne (by omega)) r⟩
  refine ⟨qThr2 (0 ≤ k ∧ k < σ 1 4) (2 ≤ σ 1 (74 + 5 * k + 4)), _, _, zAc σ (qSets σ (74 + 5 * k + 4) 0) (qThr2 (0 ≤ k ∧ k < σ 1 4) (2 ≤ σ 1 (74 + 5 * k + 4))), (qThr2_012 _ _ (by decide)), ?_, trivial, (c_X11_renew hw9.T hR.1 hR.2 hM hr.pa hk).imp (zIm.trans (zGd.a1 (fun z => qThr2_1 (by omega)) (fun h0 => zGd.a2 (fun z => qThr2_2 (by omega) z) (fun h1 => pu_ZY.trans (zEc.Y (qThr2_0 (by omega) (by first | omega | assumption)))))) (zEc.eg hw9 hr (fun z q C' h => ⟨by rw [h.1]; exact zStk.refl _ _, by rw [h.1]; exact (key z).2.2 q h.2⟩))), fun lay' nx' C0 hRl hSl => (m_X12_renew hRl hb6 hk hM.ol.1).imp (zRf.A (fun z => ⟨(if_pos z), (key z).2.1⟩) (fun z => if_neg z))⟩
  exact fun z => (if_pos z).symm
theorem p_hat (hw9 : Wd lay x y nx C σ) (hr : Rel lay x C s σ) {p v : Int} (hp : zin p) (hv : v = 0 ∨ v = 1) : zPair G lay x y nx C s σ KX11_hat 8 [zI p, zI v] (1, 6) KX12_hat 4 zEb zEb (fun _ v => v = 0 ∨ v = 1) := by
  have hR := hr.now
  have hM := hr.oc
  have hm3 := hM.I.m3
  have hm4 := hM.I.m4
  have hb6 := hr.pa.2.2.1
  have key : (if 0 ≤ p ∧ p < σ 1 3 then (0 : Int) else 1) = 0 → zRem σ (qSets σ (46 + 4 * p + 2) v) ∧ (qSets σ (46 + 4 * p + 2) v) 0 0 = 0 ∧ ∀ q, zActed lay x C s (σ 0 6) (qAct σ) (σ 1) (zput (σ 1) (46 + 4 * p + 2) v) q → Rel lay x C q (qSets σ (46 + 4 * p + 2) v) := by
    intro hk0
    have hc := ite_h hk0
    have h0 := hc
    obtain ⟨r, r1, r0⟩ := zRem.sets (w := 46 + 4 * p + 2) hb6 hr.js ⟨by omega, by omega⟩
    exact ⟨r, r0, fun q hq => hr.acted hq r1 (hM.ha ⟨h0.1, by omega⟩ hv) (fun j hj => zput_ne (by omega)) r⟩
  refine ⟨if 0 ≤ p ∧ p < σ 1 3 then (0 : Int) else 1, _, _, zAc σ (qSets σ (46 + 4 * p + 2) v) (if 0 ≤ p ∧ p < σ 1 3 then (0 : Int) else 1), ite_012 _, ?_, zbi_01 _, (c_X11_hat hw9.T hR.1 hR.2 hM hr.pa hp hv).imp (zIm.trans (zGd.a1 (fun z => if_neg (by omega)) (fun h0 => pu_ZY.trans (zEc.Y (if_pos (by omega))))) (zEc.eg hw9 hr (fun z q C' h => ⟨by rw [h.1]; exact zStk.refl _ _, by rw [h.1]; exact (key z).2.2 q h.2⟩))), fun lay' nx' C0 hRl hSl => (m_X12_hat hRl hb6 hp hv hM.ol.1).imp (zRf.A (fun z => ⟨(if_pos (ite_h z)), (key z).2.1⟩) (fun z => by rw [if_neg (fun y => z (if_pos y)), if_neg (fun y => z (if_pos y))]))⟩
  exact fun z => zbi_iff ⟨fun y => ⟨ite_h z, y⟩, fun y => y.2⟩
theorem p_out (hw9 : Wd lay x y nx C σ) (hr : Rel lay x C s σ) {p v : Int} (hp : zin p) (hv : v = 0 ∨ v = 1) : zPair G lay x y nx C s σ KX11_out 8 [zI p, zI v] (1, 6) KX12_out 4 zEb zEb (fun _ v => v = 0 ∨ v = 1) := by
  have hR := hr.now
  have hM := hr.oc
  have hm3 := hM.I.m3
  have hm4 := hM.I.m4
  have hb6 := hr.pa.2.2.1
  have key : (if 0 ≤ p ∧ p < σ 1 3 then (0 : Int) else 1) = 0 → zRem σ (qSets σ (46 + 4 * p + 3) v) ∧ (qSets σ (46 + 4 * p + 3) v) 0 0 = 0 ∧ ∀ q, zActed lay x C s (σ 0 6) (qAct σ) (σ 1) (zput (σ 1) (46 + 4 * p + 3) v) q → Rel lay x C q (qSets σ (46 + 4 * p + 3) v) := by
    intro hk0
    have hc := ite_h hk0
    have h0 := hc
    obtain ⟨r, r1, r0⟩ := zRem.sets (w := 46 + 4 * p + 3) hb6 hr.js ⟨by omega, by omega⟩
    exact ⟨r, r0, fun q hq => hr.acted hq r1 (hM.ou ⟨h0.1, by omega⟩ hv) (fun j hj => zput_ne (by omega)) r⟩
  refine ⟨if 0 ≤ p ∧ p < σ 1 3 then (0 : Int) else 1, _, _, zAc σ (qSets σ (46 + 4 * p + 3) v) (if 0 ≤ p ∧ p < σ 1 3 then (0 : Int) else 1), ite_012 _, ?_, zbi_01 _, (c_X11_out hw9.T hR.1 hR.2 hM hr.pa hp hv).imp (zIm.trans (zGd.a1 (fun z => if_neg (by omega)) (fun h0 => pu_ZY.trans (zEc.Y (if_pos (by omega))))) (zEc.eg hw9 hr (fun z q C' h => ⟨by rw [h.1]; exact zStk.refl _ _, by rw [h.1]; exact (key z).2.2 q h.2⟩))), fun lay' nx' C0 hRl hSl => (m_X12_out hRl hb6 hp hv hM.ol.1).imp (zRf.A (fun z => ⟨(if_pos (ite_h z)), (key z).2.1⟩) (fun z => by rw [if_neg (fun y => z (if_pos y)), if_neg (fun y => z (if_pos y))]))⟩
  exact fun z => zbi_iff ⟨fun y => ⟨ite_h z, y⟩, fun y => y.2⟩
theorem p_mind (hw9 : Wd lay x y nx C σ) (hr : Rel lay x C s σ) {p k : Int} (hp : zin p) (hk : zin k) : zPair G lay x y nx C s σ KX11_mind 8 [zI p, zI k] (3, 18) KX12_mind 3 zEb zEs (fun _ v => v = 0 ∨ v = 1) := by
  have hR := hr.now
  have hM := hr.oc
  have hm3 := hM.I.m3
  have hm4 := hM.I.m4
  have hb6 := hr.pa.2.2.1
  have key : (qThr2 ((0 ≤ p ∧ p < σ 1 3) ∧ 0 ≤ k ∧ k < σ 1 4) (σ 1 (74 + 5 * k + 4) = 0)) = 0 → zRem σ (qSets σ (74 + 5 * k + 3) (zxor (σ 1 (74 + 5 * k + 3)) (zshl 1 p))) ∧ (qSets σ (74 + 5 * k + 3) (zxor (σ 1 (74 + 5 * k + 3)) (zshl 1 p))) 0 0 = 0 ∧ ∀ q, zActed lay x C s (σ 0 6) (qAct σ) (σ 1) (zput (σ 1) (74 + 5 * k + 3) (zxor (σ 1 (74 + 5 * k + 3)) (zshl 1 p))) q → Rel lay x C q (qSets σ (74 + 5 * k + 3) (zxor (σ 1 (74 + 5 * k + 3)) (zshl 1 p))) := by
    intro hk0
    have hc := qThr2_h hk0
    obtain ⟨⟨h0, h1⟩, h2⟩ := hc
    obtain ⟨r, r1, r0⟩ := zRem.sets (w := 74 + 5 * k + 3) hb6 hr.js ⟨by omega, by omega⟩
    exact ⟨r, r0, fun q hq => hr.acted hq r1 (hM.fo ⟨h1.1, by omega⟩) (fun j hj => zput_ne (by omega)) r⟩
  refine ⟨qThr2 ((0 ≤ p ∧ p < σ 1 3) ∧ 0 ≤ k ∧ k < σ 1 4) (σ 1 (74 + 5 * k + 4) = 0), _, _, zAc σ (qSets σ (74 + 5 * k + 3) (zxor (σ 1 (74 + 5 * k + 3)) (zshl 1 p))) (qThr2 ((0 ≤ p ∧ p < σ 1 3) ∧ 0 ≤ k ∧ k < σ 1 4) (σ 1 (74 + 5 * k + 4) = 0)), (qThr2_012 _ _ (by decide)), ?_, zbi_01 _, (c_X11_mind hw9.T hR.1 hR.2 hM hr.pa hp hk).imp (zIm.trans (zGd.a1 (fun z => qThr2_1 (by omega)) (fun h0 => zGd.a1 (fun z => qThr2_1 (by omega)) (fun h1 => zGd.a2 (fun z => qThr2_2 (by omega) z) (fun h2 => pu_ZY.trans (zEc.Y (qThr2_0 (by omega) (by first | omega | assumption))))))) (zEc.eg hw9 hr (fun z q C' h => ⟨by rw [h.1]; exact zStk.refl _ _, by rw [h.1]; exact (key z).2.2 q h.2⟩))), fun lay' nx' C0 hRl hSl => (m_X12_mind hRl hb6 hp hk hM.ol.1).imp (zRf.A (fun z => ⟨(if_pos z), (key z).2.1⟩) (fun z => if_neg z))⟩
  exact fun z => by have z2 := (qThr2_h z).1.1; rw [zbit_flip ⟨z2.1, by omega⟩]; exact zbi_iff ⟨fun y => ⟨z, y⟩, fun y => y.2⟩
theorem p_table (hw9 : Wd lay x y nx C σ) (hr : Rel lay x C s σ) {k h : Int} (hk : zin k) (hh : zin h) : zPair G lay x y nx C s σ KX11_table 8 [zI k, zI h] (3, 18) KX12_table 3 zEb zEs (fun _ _ => True) := by
  have hR := hr.now
  have hM := hr.oc
  have hm3 := hM.I.m3
  have hm4 := hM.I.m4
  have hb6 := hr.pa.2.2.1
  have key : (qThr2 ((0 ≤ k ∧ k < σ 1 4) ∧ 0 ≤ h ∧ h < 12) (σ 1 (74 + 5 * k + 4) = 0)) = 0 → zRem σ (qTable σ k h) ∧ (qTable σ k h) 0 0 = 0 ∧ ∀ q, zActed lay x C s (σ 0 6) (qAct σ) (σ 1) (qPapM (σ 1) k h) q → Rel lay x C q (qTable σ k h) := by
    intro hk0
    have hc := qThr2_h hk0
    obtain ⟨⟨h0, h1⟩, h2⟩ := hc
    obtain ⟨r, r1, r0⟩ := zRem.table (k := k) (h := h) hb6 hr.js hM.pap (by omega) h1
    exact ⟨r, r0, fun q hq => hr.acted hq r1 (hM.tab h0 h1) (fun j hj => qPapM_o h1 (by omega)) r⟩
  refine ⟨qThr2 ((0 ≤ k ∧ k < σ 1 4) ∧ 0 ≤ h ∧ h < 12) (σ 1 (74 + 5 * k + 4) = 0), _, _, zAc σ (qTable σ k h) (qThr2 ((0 ≤ k ∧ k < σ 1 4) ∧ 0 ≤ h ∧ h < 12) (σ 1 (74 + 5 * k + 4) = 0)), (qThr2_012 _ _ (by decide)), ?_, trivial, (c_X11_table hw9.T hR.1 hR.2 hM hr.pa hk hh).imp (zIm.trans (zGd.a1 (fun z => qThr2_1 (by omega)) (fun h0 => zGd.a1 (fun z => qThr2_1 (by omega)) (fun h1 => zGd.a2 (fun z => qThr2_2 (by omega) z) (fun h2 => pu_ZY.trans (zEc.Y (qThr2_0 (by omega) (by first | omega | assumption))))))) (zEc.eg hw9 hr (fun z q C' h => ⟨by rw [h.1]; exact zStk.refl _ _, by rw [h.1]; exact (key z).2.2 q h.2⟩))), fun lay' nx' C0 hRl hSl => (m_X12_table hRl hb6 hk hh hM.ol.1).imp (zRf.A (fun z => ⟨(if_pos z), (key z).2.1⟩) (fun z => if_neg z))⟩
  exact fun z => (if_pos z).symm
end ZACT
