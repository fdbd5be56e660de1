/-! The reference's object: cell x; its arrays x + 1 (m), 2 (kept), 3 (aside), 4 (acts), 5 (tape), 6 (fact), 7 (chances), 8 (nexts), 9 (ways), 10 (then), 11 (wide); σ 0 holds the fields that are numbers, σ i the array i. -/
def rfR (i j : Int) : Option Int := if i = 0 then (if j = 1 then some 1 else if j = 2 then some 2 else if j = 4 then some 3 else if j = 5 then some 4 else if j = 7 then some 5 else if j = 14 then some 6 else if j = 20 then some 7 else if j = 21 then some 8 else if j = 22 then some 9 else if j = 23 then some 10 else if j = 24 then some 11 else none) else none
def layR (i : Int) : Nat × Int := if i = 0 then (13, 26) else if i = 1 then (100, 826) else if i = 2 then (100, 826) else if i = 3 then (100, 426) else if i = 4 then (100, 5112) else if i = 5 then (100, 400) else if i = 6 then (100, 7) else if i = 7 then (100, 5) else if i = 8 then (100, 5) else if i = 9 then (101, 5) else if i = 10 then (101, 5) else (100, 3328)
def RefL (lay : zLay) (x : Int) : Prop := 0 ≤ x ∧ ∀ i : Int, 0 ≤ i → i < 12 → lay (x + i) = layR i
abbrev rC (x : Int) (σ C0 : zMem) : zMem := rM x 12 rfR σ C0
theorem RefL.x {lay : zLay} {x : Int} (h : RefL lay x) : lay x = (12 + 1, 26) := by
  have := h.2 0 (by omega) (by omega)
  rwa [Int.add_zero] at this
theorem RefL.ne {lay : zLay} {x : Int} (h : RefL lay x) : x ≠ -1 := by have := h.1; omega
section ZREF
variable {G : zG} {k : zK} {D : Nat} {Q : zQ} {pc pc' idx : Nat} {L st : List zAV} {lay : zLay} {σ C0 : zMem} {nx x : Int} {b : Nat × Nat} {own : String} {kf : Nat} {ty : FieldType} {fin : Bool}
theorem rM_n0 {N : Int} {rf : Int → Int → Option Int} {j : Int} (hN : 0 < N) (h : rf 0 j = none) : rM x N rf σ C0 x j = σ 0 j := by
  have := rM_n (x := x) (σ := σ) (C0 := C0) (i := 0) ⟨Int.le_refl 0, hN⟩ h
  rwa [Int.add_zero] at this
theorem rM_s0 {N : Int} {rf : Int → Int → Option Int} {j t : Int} (hN : 0 < N) (h : rf 0 j = some t) : rM x N rf σ C0 x j = x + t := by
  have := rM_s (x := x) (σ := σ) (C0 := C0) (i := 0) ⟨Int.le_refl 0, hN⟩ h
  rwa [Int.add_zero] at this
theorem rM_set0 {N : Int} {rf : Int → Int → Option Int} {j v : Int} (hN : 0 < N) (h : rf 0 j = none) : zset (rM x N rf σ C0) x j v = rM x N rf (zset σ 0 j v) C0 := by
  have := rM_set (x := x) (σ := σ) (C0 := C0) (i := 0) (v := v) ⟨Int.le_refl 0, hN⟩ h
  rwa [Int.add_zero] at this
theorem rC_n0 {j : Int} (h : rfR 0 j = none) : rC x σ C0 x j = σ 0 j := rM_n0 (by omega) h
theorem rC_s0 {j t : Int} (h : rfR 0 j = some t) : rC x σ C0 x j = x + t := rM_s0 (by omega) h
theorem rC_n {i j : Int} (hi : 0 ≤ i ∧ i < 12) (h : rfR i j = none) : rC x σ C0 (x + i) j = σ i j := rM_n hi h
theorem rC_p0 {j v : Int} (h : rfR 0 j = none) : zset (rC x σ C0) x j v = rC x (zset σ 0 j v) C0 := rM_set0 (by omega) h
theorem rC_p {i j v : Int} (hi : 0 ≤ i ∧ i < 12) (h : rfR i j = none) : zset (rC x σ C0) (x + i) j v = rC x (zset σ i j v) C0 := rM_set hi h
/-- a number's field, read -/
theorem z_rg {j : Int} (hf : zFl own idx 12 kf 0 ty fin) (hd : zD k pc (.getfield idx) 3 pc') (hk : own = k.1.cls) (hR : RefL lay x) (hj : (kf : Int) = j) (hn : rfR 0 j = none) (w : zW G k D Q pc' L (zI (σ 0 j) :: st) lay (rC x σ C0) nx b) : zW G k D Q pc L (zP x :: st) lay (rC x σ C0) nx b :=
  z_getfield hf hd hk hR.x (by rw [hj, rC_n0 hn]; exact w)
/-- an array's field, read -/
theorem z_ra {t : Int} (hf : zFl own idx 12 kf 2 ty fin) (hd : zD k pc (.getfield idx) 3 pc') (hk : own = k.1.cls) (hR : RefL lay x) (hn : rfR 0 kf = some t) (w : zW G k D Q pc' L (zP (x + t) :: st) lay (rC x σ C0) nx b) : zW G k D Q pc L (zP x :: st) lay (rC x σ C0) nx b :=
  z_getfield hf hd hk hR.x (by rw [rC_s0 hn]; exact w)
theorem z_rp {j v : Int} (hf : zFl own idx 12 kf 0 .int false) (hd : zD k pc (.putfield idx) 3 pc') (hk : own = k.1.cls) (hR : RefL lay x) (hj : (kf : Int) = j) (hn : rfR 0 j = none) (w : zW G k D Q pc' L st lay (rC x (zset σ 0 j v) C0) nx b) : zW G k D Q pc L (zI v :: zP x :: st) lay (rC x σ C0) nx b :=
  z_putfield (tg := 0) hf hd hk hR.x zfit_I (Or.inl rfl) (by rw [hj, rC_p0 hn]; exact w)
theorem z_rpz {j v : Int} (hf : zFl own idx 12 kf 0 .boolean false) (hd : zD k pc (.putfield idx) 3 pc') (hk : own = k.1.cls) (hR : RefL lay x) (hj : (kf : Int) = j) (hn : rfR 0 j = none) (hv : v = 0 ∨ v = 1) (w : zW G k D Q pc' L st lay (rC x (zset σ 0 j v) C0) nx b) : zW G k D Q pc L (zI v :: zP x :: st) lay (rC x σ C0) nx b :=
  z_putfield (tg := 0) hf hd hk hR.x (zfit_Z hv) (Or.inl rfl) (by rw [hj, rC_p0 hn]; exact w)
theorem z_rl {t j n : Int} (hd : zD k pc .iaload 1 pc') (hR : RefL lay x) (ht : 0 ≤ t ∧ t < 12) (hn : layR t = (100, n)) (hr : rfR t j = none) (hj : 0 ≤ j ∧ j < n) (w : zW G k D Q pc' L (zI (σ t j) :: st) lay (rC x σ C0) nx b) : zW G k D Q pc L (zI j :: zP (x + t) :: st) lay (rC x σ C0) nx b :=
  z_iaload hd ((hR.2 t ht.1 ht.2).trans hn) hj (by rw [rC_n ht hr]; exact w)
theorem z_rs {t j n v : Int} (hd : zD k pc .iastore 1 pc') (hR : RefL lay x) (ht : 0 ≤ t ∧ t < 12) (hn : layR t = (100, n)) (hr : rfR t j = none) (hj : 0 ≤ j ∧ j < n) (w : zW G k D Q pc' L st lay (rC x (zset σ t j v) C0) nx b) : zW G k D Q pc L (zI v :: zI j :: zP (x + t) :: st) lay (rC x σ C0) nx b :=
  z_iastore hd ((hR.2 t ht.1 ht.2).trans hn) hj (by rw [rC_p ht hr]; exact w)
theorem z_rlJ {t j n : Int} (hd : zD k pc .laload 1 pc') (hR : RefL lay x) (ht : 0 ≤ t ∧ t < 12) (hn : layR t = (101, n)) (hr : rfR t j = none) (hj : 0 ≤ j ∧ j < n) (w : zW G k D Q pc' L (zJ (σ t j) :: st) lay (rC x σ C0) nx b) : zW G k D Q pc L (zI j :: zP (x + t) :: st) lay (rC x σ C0) nx b :=
  z_laload hd ((hR.2 t ht.1 ht.2).trans hn) hj (by rw [rC_n ht hr]; exact w)
theorem z_rsJ {t j n v : Int} (hd : zD k pc .lastore 1 pc') (hR : RefL lay x) (ht : 0 ≤ t ∧ t < 12) (hn : layR t = (101, n)) (hr : rfR t j = none) (hj : 0 ≤ j ∧ j < n) (w : zW G k D Q pc' L st lay (rC x (zset σ t j v) C0) nx b) : zW G k D Q pc L (zJ v :: zI j :: zP (x + t) :: st) lay (rC x σ C0) nx b :=
  z_lastore hd ((hR.2 t ht.1 ht.2).trans hn) hj (by rw [rC_p ht hr]; exact w)
end ZREF
/-- counting up to N -/
theorem z_up {P : Int → Prop} (N : Int) (hend : P N) (hstep : ∀ t : Int, 0 ≤ t → t < N → P (t + 1) → P t) : ∀ t : Int, 0 ≤ t → t ≤ N → P t := by
  have h : ∀ (n : Nat) (t : Int), 0 ≤ t → t ≤ N → N - t = n → P t := by
    intro n
    induction n with
    | zero => intro t h0 h1 h2; rw [show t = N by omega]; exact hend
    | succ n ih =>
      intro t h0 h1 h2
      exact hstep t h0 (by omega) (ih (t + 1) (by omega) (by omega) (by omega))
  intro t h0 h1
  exact h (N - t).toNat t h0 h1 (by omega)
/-- counting down from N - 1 to 0, the end at -1 -/
theorem z_down {P : Int → Prop} (hend : P (-1)) (N : Int) (hstep : ∀ t : Int, 0 ≤ t → t < N → P (t - 1) → P t) : ∀ t : Int, -1 ≤ t → t < N → P t := by
  have h : ∀ (n : Nat) (t : Int), -1 ≤ t → t < N → t + 1 = n → P t := by
    intro n
    induction n with
    | zero => intro t h0 h1 h2; rw [show t = -1 by omega]; exact hend
    | succ n ih =>
      intro t h0 h1 h2
      exact hstep t (by omega) h1 (ih (t - 1) (by omega) (by omega) (by omega))
  intro t h0 h1
  exact h (t + 1).toNat t h0 h1 (by omega)
/-- sums f 0 + .. + f (n - 1) -/
def zsumN (f : Int → Int) : Nat → Int
  | 0 => 0
  | n + 1 => zsumN f n + f n
def zsum (f : Int → Int) (n : Int) : Int := zsumN f n.toNat
theorem zsum_0 (f : Int → Int) : zsum f 0 = 0 := rfl
theorem zsum_s (f : Int → Int) {n : Int} (h : 0 ≤ n) : zsum f (n + 1) = zsum f n + f n := by
  unfold zsum
  rw [show (n + 1).toNat = n.toNat + 1 by omega]
  show zsumN f n.toNat + f (n.toNat : Int) = _
  rw [show ((n.toNat : Nat) : Int) = n by omega]
theorem zsum_congr {f g : Int → Int} {n : Int} (h : ∀ t, 0 ≤ t → t < n → f t = g t) : zsum f n = zsum g n := by
  unfold zsum
  have : ∀ m : Nat, (m : Int) ≤ n ∨ m = 0 → zsumN f m = zsumN g m := by
    intro m
    induction m with
    | zero => intro _; rfl
    | succ m ih => intro hm; show _ + _ = _ + _; rw [ih (by omega), h m (by omega) (by omega)]
  exact this _ (by omega)
theorem zsum_bd {f : Int → Int} {n a c : Int} (h0 : 0 ≤ n) (h : ∀ t, 0 ≤ t → t < n → a ≤ f t ∧ f t ≤ c) : a * n ≤ zsum f n ∧ zsum f n ≤ c * n := by
  have : ∀ t : Int, 0 ≤ t → t ≤ n → a * t ≤ zsum f t ∧ zsum f t ≤ c * t := by
    intro t ht
    have hm : ∀ m : Nat, (m : Int) ≤ n → a * (m : Int) ≤ zsum f m ∧ zsum f m ≤ c * (m : Int) := by
      intro m
      induction m with
      | zero => intro _; rw [show ((0 : Nat) : Int) = 0 from rfl, zsum_0, Int.mul_zero, Int.mul_zero]; omega
      | succ m ih =>
        intro hm
        have h1 := ih (by omega)
        have h2 := h m (by omega) (by omega)
        rw [show ((m + 1 : Nat) : Int) = (m : Int) + 1 by omega, zsum_s f (by omega), Int.mul_add, Int.mul_add]
        omega
    intro hn
    have := hm t.toNat (by omega)
    rwa [show ((t.toNat : Nat) : Int) = t by omega] at this
  exact this n h0 (Int.le_refl n)
/-! Truth as 1 or 0. -/
noncomputable def zbi (p : Prop) : Int := @ite Int p (Classical.propDecidable p) 1 0
theorem zbi_t {p : Prop} (h : p) : zbi p = 1 := by unfold zbi; rw [if_pos h]
theorem zbi_f {p : Prop} (h : ¬ p) : zbi p = 0 := by unfold zbi; rw [if_neg h]
theorem zbi_01 (p : Prop) : zbi p = 0 ∨ zbi p = 1 := (Classical.em p).elim (fun h => Or.inr (zbi_t h)) (fun h => Or.inl (zbi_f h))
theorem zbi_1 {p : Prop} : zbi p = 1 ↔ p := ⟨fun h => Classical.byContradiction (fun q => by rw [zbi_f q] at h; cases h), zbi_t⟩
theorem zbi_0 {p : Prop} : zbi p = 0 ↔ ¬ p := ⟨fun h q => absurd (h.symm.trans (zbi_t q)) (by decide), zbi_f⟩
theorem zbi_in (p : Prop) : zin (zbi p) := by rcases zbi_01 p with h | h <;> rw [h] <;> decide
theorem zbi_congr {p q : Prop} (h : p ↔ q) : zbi p = zbi q := by rw [propext h]
section ZBOO
variable {G : zG} {k : zK} {D : Nat} {Q : zQ} {pc pc' : Nat} {L st av : List zAV} {lay : zLay} {C : zMem} {nx : Int} {b : Nat × Nat}
theorem z_ifb_eq {p : Prop} {off : Int} {tgt : Nat} (hd : zD k pc (.ifCond .eq off) 3 pc') (ht : zT pc off tgt) (wt : ¬ p → zW G k D Q tgt L st lay C nx b) (wf : p → zW G k D Q pc' L st lay C nx b) : zW G k D Q pc L (zI (zbi p) :: st) lay C nx b :=
  z_if_eq hd ht (zbi_in p) (fun h => wt (zbi_0.mp h)) (fun h => wf (Classical.byContradiction (fun q => h (zbi_f q))))
theorem z_ifb_ne {p : Prop} {off : Int} {tgt : Nat} (hd : zD k pc (.ifCond .ne off) 3 pc') (ht : zT pc off tgt) (wt : p → zW G k D Q tgt L st lay C nx b) (wf : ¬ p → zW G k D Q pc' L st lay C nx b) : zW G k D Q pc L (zI (zbi p) :: st) lay C nx b :=
  z_if_ne hd ht (zbi_in p) (fun h => wt (Classical.byContradiction (fun q => h (zbi_f q)))) (fun h => wf (zbi_0.mp h))
theorem zRb1 {p : Prop} (h : p) : zR (some (zI (zbi p))) lay C nx (.inl (some (zI 1))) lay C nx := ⟨by rw [zbi_t h], rfl, rfl, rfl⟩
theorem zRb0 {p : Prop} (h : ¬ p) : zR (some (zI (zbi p))) lay C nx (.inl (some (zI 0))) lay C nx := ⟨by rw [zbi_f h], rfl, rfl, rfl⟩
theorem zRe {v v' : Int} (h : v' = v) : zR (some (zI v)) lay C nx (.inl (some (zI v'))) lay C nx := ⟨by rw [h], rfl, rfl, rfl⟩
theorem zRC {r : Option zAV} {C' : zMem} (h : C' = C) : zR r lay C nx (.inl r) lay C' nx := ⟨rfl, rfl, h, rfl⟩
theorem z_met' (hg1 : plainName k.1.cls = true) (hh : k.2.2.2.2 = []) (ha : av.all (fun v => v.1 != 1) = true) (hn : av.length ≤ k.2.2.1) (hL : av ++ List.replicate (k.2.2.1 - av.length) zU = L) (w : zW G k D Q 0 L [] lay C nx b) : zMM G D k av lay C nx b Q :=
  z_met hg1 hh (fun v hv => by have := List.all_eq_true.mp ha v hv; simpa using this) hn (by rw [hL]; exact w)
end ZBOO
theorem zand_in (x y : Int) : zin (zand x y) := by
  unfold zand
  exact ⟨Int32.le_toInt _, Int32.toInt_lt _⟩
theorem zor_in (x y : Int) : zin (zor x y) := by
  unfold zor
  exact ⟨Int32.le_toInt _, Int32.toInt_lt _⟩
theorem zxor_in (x y : Int) : zin (zxor x y) := by
  unfold zxor
  exact ⟨Int32.le_toInt _, Int32.toInt_lt _⟩
theorem zshl_in (x y : Int) : zin (zshl x y) := by
  unfold zshl
  exact ⟨Int32.le_toInt _, Int32.toInt_lt _⟩
theorem zshr_in (x y : Int) : zin (zshr x y) := by
  unfold zshr
  exact ⟨Int32.le_toInt _, Int32.toInt_lt _⟩
theorem zushr_in (x y : Int) : zin (zushr x y) := by
  unfold zushr
  exact ⟨Int32.le_toInt _, Int32.toInt_lt _⟩
