/-! The law's beginning, and the whole of it. -/
theorem zOC_0 : zOC qM0 := by
  have hb : ∀ n : Nat, n < 426 → ((n : Int) = 12 ∨ (74 ≤ (n : Int) ∧ (n : Int) < 114 ∧ ((n : Int) - 74) % 5 = 3)) ∨ ((zBd n).1 ≤ qM0 n ∧ qM0 n ≤ (zBd n).2) := by decide +kernel
  have m3 : qM0 3 = 0 := by decide
  have m4 : qM0 4 = 0 := by decide
  refine ⟨⟨⟨fun j j0 j1 => ?_, fun s s0 s1 => ?_⟩, fun i i0 i1 => ?_⟩, fun h h' h0 h1 h0' h1' e ne => ?_, fun k k0 k1 => by omega, fun h h0 h1 => ?_⟩
  · have h := hb j.toNat (by omega)
    rw [Int.toNat_of_nonneg j0] at h
    exact h
  · have e : s = 0 ∨ s = 1 ∨ s = 2 ∨ s = 3 ∨ s = 4 := by omega
    rcases e with e | e | e | e | e <;> subst e <;> decide +kernel
  · rw [qM0_0 (Or.inr (by omega))]; exact ⟨by decide, by decide⟩
  · exact absurd (qM0_n ⟨by omega, by omega⟩) ne
  · rw [qM0_n ⟨by omega, by omega⟩, m4]; decide
theorem Rel_0 {l : zLay} {c : zMem} {x y : Int} (hv : Nv c x) (hm : ∀ j, c (y + 1) j = qM0 j) (h5 : ∀ j, c (y + 5) j = 0) (h6 : ∀ j, c (y + 6) j = 0) (e12 : c y 12 = -1) (e3 : c y 3 = 0) (e6 : c y 6 = 0) (e8 : c y 8 = 0) (e15 : c y 15 = 0) (e16 : c y 16 = 0) (e18 : c y 18 = 0) (e19 : c y 19 = 0) : Rel l x c (fun i j => c (x + i) j) (fun i j => c (y + i) j) := by
  have em : (fun j => c (y + 1) j) = qM0 := funext hm
  have z : ∀ j, c (x + 0) j = c x j := fun j => by rw [Int.add_zero]
  have z2 : ∀ j, c (y + 0) j = c y j := fun j => by rw [Int.add_zero]
  have t3 : (fun i j => c (y + i) j : zMem) 0 3 = 0 := (z2 3).trans e3
  have t6 : (fun i j => c (y + i) j : zMem) 0 6 = 0 := (z2 6).trans e6
  refine ⟨⟨?_, Or.inl ⟨(hm 1).trans (by decide), hv.lw⟩⟩, ?_, (z 6).trans (hv.s6.trans ((z2 3).trans e3).symm), Or.inl t3, fun w => ?_, ⟨⟨?_, ?_⟩, (z 9).trans (hv.s9.trans t6.symm), ⟨?_, ?_⟩, fun i i0 i1 => ?_⟩, fun i i0 i1 => ?_, funext fun j => (hv.tp j).trans (h5 j).symm, (z 1).trans (hv.s1.trans ((z2 8).trans e8).symm), (z 2).trans (hv.s2.trans ((z2 12).trans e12).symm), ⟨⟨?_, ?_⟩, fun k k0 k1 => ?_⟩, ⟨fun k k0 k1 => ?_, Or.inl ((z2 15).trans e15), Or.inl ((z2 16).trans e16), Or.inl ((z2 18).trans e18), Or.inl ((z2 19).trans e19)⟩⟩
  · show CoN _ 2 (fun j => c (y + 1) j)
    rw [em]; exact hv.co
  · show zOC (fun j => c (y + 1) j)
    rw [em]; exact zOC_0
  · rw [t3] at w; exact absurd w (by decide)
  · show 0 ≤ c (x + 0) 8
    rw [z, hv.s8]; decide
  · show c (x + 0) 8 < 12
    rw [z, hv.s8]; decide
  · rw [t6]; decide
  · rw [t6]; decide
  · rw [t6] at i1; omega
  · rw [t6] at i1; omega
  · show 0 ≤ c (y + 0) 8
    rw [z2, e8]; decide
  · show c (y + 0) 8 ≤ 400
    rw [z2, e8]; decide
  · show 0 ≤ c (y + 5) k ∧ c (y + 5) k ≤ 255
    rw [h5]; exact ⟨by decide, by decide⟩
  · show 0 ≤ c (y + 6) k ∧ c (y + 6) k ≤ 9999
    rw [h6]; exact ⟨by decide, by decide⟩
theorem Nv.cg {c c' : zMem} {x : Int} (h : Nv c x) (e : ∀ p, x ≤ p → p < x + 313 → c' p = c p) : Nv c' x := by
  have ex := e x (by omega) (by omega)
  have e' : ∀ i : Int, 0 ≤ i → i < 313 → c' (x + i) = c (x + i) := fun i i0 i1 => e _ (by omega) (by omega)
  refine ⟨by rw [ex]; exact h.s1, by rw [ex]; exact h.s2, by rw [ex]; exact h.s6, by rw [ex]; exact h.s8, by rw [ex]; exact h.s9, fun j => by rw [e' 1 (by decide) (by decide)]; exact h.tp j, by rw [e' 2 (by decide) (by decide)]; exact h.lw, ?_⟩
  have hc := h.co
  exact hc.out (fun i i0 i1 _ _ => by
    funext j
    show c' (x + (2 + i)) j = c (x + (2 + i)) j
    rw [e' (2 + i) (by omega) (by omega)])
theorem tC_self {x : Int} {c : zMem} (h : ∀ i j t, inT i → rfT i j = some t → c (x + i) j = x + t) : c = tC x (fun i j => c (x + i) j) c := by
  funext p j
  by_cases hi : inT (p - x)
  · cases hr : rfT (p - x) j with
    | some t =>
      have e : p = x + (p - x) := by omega
      rw [e, tC_s hi hr]
      exact h _ _ _ hi hr
    | none =>
      have e : p = x + (p - x) := by omega
      rw [e, tC_n hi hr]
  · rw [tC_out hi]
theorem law_all {G : zG} {Q : zQ} {lay : zLay} {C : zMem} {nx n : Int} {S : Int → Int} (h0 : 0 ≤ nx) (hS : TxS lay C) (hs : lay (-5) = (103, n)) (hss : ∀ j, C (-5) j = S j) (hz : ∀ j, zin (S j)) (hn : 0 ≤ n ∧ n ≤ 3072) (hQ : ∀ l c m, Q (.inl (some (zI 1))) l c m) : zW G KL_law_ 100 Q 0 [zP (-5), zU, zU, zU, zU, zU, zU] [] lay C nx (3910, 264731) := by
  refine zW.mono (b' := (3909 + 1, 264716 + 15)) ⟨by decide, by decide⟩ ?_
  refine z_new (ci := 11) eL_law__0 rfl rfl nL_8.1 nL_8.2.1 nL_8.2.2 ?_
  refine z_dup eL_law__3 (Nat.ne_of_beq_eq_false rfl) ?_
  refine zW.mono (b' := (312 + 3597, 11568 + 253148)) ⟨by decide, by decide⟩ ?_
  refine z_callI (b' := (312, 11568)) (b'' := (3597, 253148)) (av := []) (st := [zP nx]) eL_law__4 vL_150.1 vL_150.2.1 vL_150.2.2 (n_X11 (zlay_s' rfl) h0) (Nat.le_of_ble_eq_true rfl) (by omega) rfl (Nat.le_of_ble_eq_true rfl) (fun r l1 c1 m1 q => ?_) (fun E9 l9 c9 m9 q => by obtain ⟨q1, q2⟩ := q; cases q1)
  obtain ⟨q1, hm1, la, ca, lb, cb, k1, k2, k3⟩ := q
  have e9 := Sum.inl.inj q1
  subst e9
  subst hm1
  refine z_as1 eL_law__7 (by omega) (Nat.ne_of_beq_eq_false rfl) ?_
  refine zW.mono (b' := (3596 + 1, 253122 + 26)) ⟨by decide, by decide⟩ ?_
  refine z_new (ci := 12) eL_law__8 rfl rfl nL_151.1 nL_151.2.1 nL_151.2.2 ?_
  refine z_dup eL_law__11 (Nat.ne_of_beq_eq_false rfl) ?_
  refine zW.mono (b' := (11 + 3585, 10945 + 242177)) ⟨by decide, by decide⟩ ?_
  refine z_callI (b' := (11, 10945)) (b'' := (3585, 242177)) (av := []) (st := [zP (nx + 313)]) eL_law__12 vL_153.1 vL_153.2.1 vL_153.2.2 (n_X12 (zlay_s' rfl) (by omega)) (Nat.le_of_ble_eq_true rfl) (by omega) rfl (Nat.le_of_ble_eq_true rfl) (fun r l2 c2 m2 q => ?_) (fun E9 l9 c9 m9 q => by obtain ⟨q1, q2⟩ := q; cases q1)
  obtain ⟨q1, k4, hm2⟩ := q
  have e9 := Sum.inl.inj q1
  subst e9
  subst hm2
  refine z_as2 eL_law__15 (by omega) (Nat.ne_of_beq_eq_false rfl) ?_
  refine z_iconst eL_law__16 ?_
  refine zW.mono (b' := (7 * 512 + 1, 473 * 512 + (1 : Int).toNat)) ⟨by decide, by decide⟩ ?_
  refine z_newl eL_law__17 w_al ⟨by decide, by decide⟩ ?_
  refine z_as3 eL_law__19 (by omega) (Nat.ne_of_beq_eq_false rfl) (z_iconst eL_law__20 (z_is4 eL_law__21 (Nat.ne_of_beq_eq_false rfl) ?_))
  have hr := Nw_ref k1 k2 k3 h0
  have hT := Nw_top k1 k2 k3 h0
  have hv := Nw_val k1 k2 k3 ⟨(zborn_s' rfl).trans (by decide), (zborn_s' rfl).trans (by decide), (zborn_s' rfl).trans (by decide), (zborn_s' rfl).trans (by decide)⟩
  have fl : ∀ p, p < nx + 313 → zlay l2 (nx + 313 + 12) 101 1 p = l1 p := fun p hp => (zlay_o (by omega)).trans ((k4.bl p hp).trans (zlay_o (by omega)))
  have fc : ∀ p, p < nx + 313 → zzero c2 (nx + 313 + 12) 0 p = c1 p := fun p hp => (zzero_o (by omega)).trans ((k4.bc p hp).trans (zborn_o (by omega)))
  have gl : ∀ p, p < nx → l1 p = lay p := fun p hp => (k3.bl p (by omega)).trans ((k2.bl p (by omega)).trans ((k1.bl p hp).trans (zlay_o (by omega))))
  have gc : ∀ p, p < nx → c1 p = C p := fun p hp => (k3.bc p (by omega) (by omega)).trans ((k2.bc p (by omega) (by omega)).trans ((k1.bc p hp).trans (zborn_o (by omega))))
  have wc : ∀ p, p ≠ nx + 313 + 12 → zzero c2 (nx + 313 + 12) 0 p = c2 p := fun p hp => zzero_o hp
  have wl : ∀ p, p ≠ nx + 313 + 12 → zlay l2 (nx + 313 + 12) 101 1 p = l2 p := fun p hp => zlay_o hp
  have hW : zlay l2 (nx + 313 + 12) 101 1 (nx + 313 + 12) = (101, 1) := zlay_s' rfl
  generalize zlay l2 (nx + 313 + 12) 101 1 = lF at fl wl hW ⊢
  generalize zzero c2 (nx + 313 + 12) 0 = cF at fc wc ⊢
  have hrF : ∀ i j t, inT i → rfT i j = some t → cF (nx + i) j = nx + t := fun i j t hi ht => by
    rw [fc _ (by unfold inT at hi; omega)]
    exact hr i j t hi ht
  have ee := tC_self hrF
  have hvF := hv.cg (c' := cF) (fun p p0 p1 => fc p (by omega))
  have d : ∀ {j : Int}, j = 3 ∨ j = 6 ∨ j = 8 ∨ j = 15 ∨ j = 16 ∨ j = 18 ∨ j = 19 → zborn c1 (nx + 313) (RX12, TX12, 26) (nx + 313) j = 0 := fun {j} h => by
    rcases h with e | e | e | e | e | e | e <;> subst e <;> exact (zborn_s' rfl).trans (by decide)
  have ey : ∀ i : Int, 0 ≤ i → i < 12 → cF (nx + 313 + i) = c2 (nx + 313 + i) := fun i i0 i1 => wc _ (by omega)
  have ey0 : cF (nx + 313) = c2 (nx + 313) := wc _ (by omega)
  have hRel : Rel lF nx cF (fun i j => cF (nx + i) j) (fun i j => cF (nx + 313 + i) j) := Rel_0 hvF (fun j => by rw [ey 1 (by decide) (by decide)]; exact k4.m j) (fun j => by rw [ey 5 (by decide) (by decide)]; exact k4.y5 j) (fun j => by rw [ey 6 (by decide) (by decide)]; exact k4.y6 j) (by rw [ey0]; exact k4.d12) (by rw [ey0]; exact k4.d3.trans (d (by omega))) (by rw [ey0]; exact k4.d6.trans (d (by omega))) (by rw [ey0]; exact k4.d8.trans (d (by omega))) (by rw [ey0]; exact k4.d15.trans (d (by omega))) (by rw [ey0]; exact k4.d16.trans (d (by omega))) (by rw [ey0]; exact k4.d18.trans (d (by omega))) (by rw [ey0]; exact k4.d19.trans (d (by omega)))
  have hWd : Wd lF nx (nx + 313) (nx + 313 + 12 + 1) cF (fun i j => cF (nx + 313 + i) j) := by
    refine ⟨⟨h0, fun i hi => ?_⟩, ⟨by omega, fun i i0 i1 => ?_⟩, Int.le_refl _, by omega, fun t q hq => ?_, fun o o0 o1 => ?_⟩
    · rw [fl _ (by unfold inT at hi; omega)]
      exact hT.2 i hi
    · rw [wl _ (by omega)]
      exact k4.R.2 i i0 i1
    · obtain ⟨a, b, d⟩ := hS t q hq
      exact ⟨by rw [fl _ (by omega), gl _ (by omega)]; exact a, by rw [fl _ (by omega), gl _ (by omega)]; exact b, fun i hi => by rw [fc _ (by omega), gc _ (by omega)]; exact d i hi⟩
    · funext j
      show cF o j = if 0 ≤ o - (nx + 313) ∧ o - (nx + 313) < 12 then _ else _
      rw [if_pos (by omega)]
      have eo : nx + 313 + (o - (nx + 313)) = o := by omega
      cases hq : rfR (o - (nx + 313)) j with
      | some t =>
        have h9 := k4.rf (o - (nx + 313)) j t (by omega) (by omega) hq
        rw [eo] at h9
        rw [wc o (by omega)]
        exact h9
      | none =>
        show cF o j = cF (nx + 313 + (o - (nx + 313))) j
        rw [eo]
  have hLp : Lp lF nx (nx + 313) (nx + 313 + 12 + 1) (nx + 313 + 12) n S cF (fun i j => cF (nx + i) j) (fun i j => cF (nx + 313 + i) j) := ⟨hWd, hRel, by rw [fl _ (by omega), gl _ (by omega)]; exact hs, fun j => by rw [fc _ (by omega), gc _ (by omega)]; exact hss j, hW, ⟨Int.le_refl _, by omega⟩⟩
  have h9 := l_loop (G := G) (Q := Q) hz (by omega) hn.1 hQ 512 0 lF (nx + 313 + 12 + 1) cF _ _ zU zU (by decide) hn.1 (by omega) hLp
  rw [← ee] at h9
  unfold zLL at h9
  rw [Int.add_zero] at h9
  exact h9
