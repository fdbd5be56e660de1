set_option maxRecDepth 100000 in
theorem z_sz : ∀ r ∈ vwCl, r.2.2 < 2147483648 := by decide +kernel
set_option maxRecDepth 100000 in
theorem z_dty : ∀ r ∈ vwCl, ∀ k, k < r.2.2 → (zTag (r.2.1 k).2.2.1 = 0 ∧ defaultValue (zty r k) = .int 0) ∨ (zTag (r.2.1 k).2.2.1 = 1 ∧ defaultValue (zty r k) = .long 0) ∨ (zTag (r.2.1 k).2.2.1 = 2 ∧ defaultValue (zty r k) = .null) := by decide +kernel
theorem z_dflt (r : vw_C) (hr : r ∈ vwCl) (j : Nat) (hj : j < r.2.2) (α : Int → Nat) : defaultValue (zty r j) = zc α (zTag (r.2.1 j).2.2.1, if zTag (r.2.1 j).2.2.1 = 2 then -1 else 0) := by
  rcases z_dty r hr j hj with ⟨a, b⟩ | ⟨a, b⟩ | ⟨a, b⟩ <;> (rw [a, b]; rfl)
set_option maxRecDepth 100000 in
theorem z_oi : Cond.instanceMethod Lib.objectInit ∈ zTg ∧ Cond.code Lib.objectInit ⟨#[0xb1]⟩ 1 none ∈ zTg := by decide +kernel
/-! Rows of arrays, of new things, and ends. -/
section ZARR
variable {G : zG} {k : zK} {D : Nat} {Q : zQ} {pc pc' : Nat} {L st : List zAV} {lay : zLay} {C : zMem} {nx : Int} {b : Nat × Nat}
theorem znat {i : Int} (h : 0 ≤ i) (h2 : i < 2147483648) : (Int32.ofInt i).toNatClampNeg = i.toNat := by
  rw [← Int32.toNat_toInt, zto ⟨by omega, h2⟩]
theorem zvin {i n : Int} (h : 0 ≤ i ∧ i < n) (hn : n < 2147483648) : vp_in (Int32.ofInt i) n.toNat := by
  have hi : zin i := ⟨by omega, by omega⟩
  rintro (q | q)
  · exact absurd ((zlt hi (y := 0) ⟨by omega, by omega⟩).mp q) (by omega)
  · rw [znat h.1 (by omega)] at q
    omega
theorem zcell_ar {α : Int → Nat} {o : Int} {H : Heap} (h : zCell G α lay C o H) {kd : Nat} {n : Int} (ho : lay o = (kd, n)) (hk : ¬ kd < 100) : H[α o]? = some (zArr G α C o kd n.toNat) := by
  unfold zCell at h
  rw [ho] at h
  rwa [if_neg hk] at h
theorem zArr_i (G : zG) (α : Int → Nat) (C : zMem) (o : Int) (n : Nat) : zArr G α C o 100 n = arrV (G.2.2.2.1 0) n (fun j : Nat => .int (Int32.ofInt (C o j))) := rfl
theorem zArr_l (G : zG) (α : Int → Nat) (C : zMem) (o : Int) (n : Nat) : zArr G α C o 101 n = arrV (G.2.2.2.1 1) n (fun j : Nat => .long (Int64.ofInt (C o j))) := rfl
theorem zArr_q (G : zG) (α : Int → Nat) (C : zMem) (o : Int) (n : Nat) : zArr G α C o 102 n = arrV (G.2.2.2.1 2) n (fun j : Nat => va_rf (zopt α (C o j))) := rfl
theorem zcell_mk {α : Int → Nat} {o : Int} {H : Heap} {kd : Nat} {n : Int} (ho : lay o = (kd, n)) (hk : ¬ kd < 100) (h : H[α o]? = some (zArr G α C o kd n.toNat)) : zCell G α lay C o H := by
  unfold zCell
  rw [ho]
  rwa [if_neg hk]
theorem zP1 {α : Int → Nat} {o : Int} {H : Heap} {kd : Nat} {n : Int} {cA : ClassId} {x : vp_A} (h : H[α o]? = some (zArr G α C o kd n.toNat)) (e : zArr G α C o kd n.toNat = vp_cell cA x) : va_P G.2.2.1 vwCl [(α o, .inl (cA, x))] H := by
  intro i q hq
  have hz : i < 1 := (List.getElem?_eq_some_iff.mp hq).1
  rw [show i = 0 by omega] at hq
  cases hq
  show H[α o]? = some (vp_cell cA x)
  rw [h, e]
theorem zrefs_num {o : Int} {kd : Nat} {n : Int} (ho : lay o = (kd, n)) (h1 : ¬ kd < 100) (h2 : kd ≠ 102) : zRefs lay C o := by
  refine ⟨fun q => ?_, fun q => ?_⟩
  · rw [ho] at q; exact absurd q h1
  · rw [ho] at q; exact absurd q h2
theorem z_iaload {o i n : Int} (hd : zD k pc .iaload 1 pc') (ho : lay o = (100, n)) (hi : 0 ≤ i ∧ i < n) (w : zW G k D Q pc' L (zI (C o i) :: st) lay C nx b) : zW G k D Q pc L (zI i :: zP o :: st) lay C nx b := by
  intro p e R s m args below meth c H locs cells slots mc ms ls α₀ lay₀ α cx he hw hL hs hz hlo hc hm hl
  have hne : (lay o).1 ≠ 0 := by rw [ho]; exact Nat.succ_ne_zero 99
  have hm1 : o ≠ -1 := fun q => hne (by rw [q]; exact hw.2.2.2.1)
  obtain ⟨-, -, g3, g4, g5, g6, g7, g8⟩ := hw.2.2.2.2.1 o hne (by rw [ho]; exact Nat.le_of_ble_eq_true rfl)
  rw [ho] at g6
  have ha := zcell_ar g7 ho (Nat.not_lt.mpr (Nat.le_of_ble_eq_true rfl))
  rw [List.map_cons, List.map_cons, zc_P α hm1]
  refine va_iald (D := G.2.2.1) (cl := vwCl) (tys := zTys G) cx.1 cx.2.1 cx.2.2.2.2.2.2.2.2.2.1.1 (zP1 ha rfl) 0 0 rfl rfl (zvin hi g6) hd.1 ?_
  rw [hd.2, znat hi.1 (Int.lt_trans hi.2 g6), Int.toNat_of_nonneg hi.1]
  exact w p e R s m args below meth c H locs cells slots mc ms ls α₀ lay₀ α cx he hw hL (zok_c zok_I (zok_t (zok_t hs))) hz hlo hc hm hl
theorem z_laload {o i n : Int} (hd : zD k pc .laload 1 pc') (ho : lay o = (101, n)) (hi : 0 ≤ i ∧ i < n) (w : zW G k D Q pc' L (zJ (C o i) :: st) lay C nx b) : zW G k D Q pc L (zI i :: zP o :: st) lay C nx b := by
  intro p e R s m args below meth c H locs cells slots mc ms ls α₀ lay₀ α cx he hw hL hs hz hlo hc hm hl
  have hne : (lay o).1 ≠ 0 := by rw [ho]; exact Nat.succ_ne_zero 100
  have hm1 : o ≠ -1 := fun q => hne (by rw [q]; exact hw.2.2.2.1)
  obtain ⟨-, -, g3, g4, g5, g6, g7, g8⟩ := hw.2.2.2.2.1 o hne (by rw [ho]; exact Nat.le_of_ble_eq_true rfl)
  rw [ho] at g6
  have ha := zcell_ar g7 ho (Nat.not_lt.mpr (Nat.le_of_ble_eq_true rfl))
  rw [List.map_cons, List.map_cons, zc_P α hm1]
  refine va_lald (D := G.2.2.1) (cl := vwCl) (tys := zTys G) cx.1 cx.2.1 cx.2.2.2.2.2.2.2.2.2.1.1 (zP1 ha rfl) 0 1 rfl rfl (zvin hi g6) hd.1 ?_
  rw [hd.2, znat hi.1 (Int.lt_trans hi.2 g6), Int.toNat_of_nonneg hi.1]
  exact w p e R s m args below meth c H locs cells slots mc ms ls α₀ lay₀ α cx he hw hL (zok_c zok_J (zok_t (zok_t hs))) hz hlo hc hm hl
theorem z_aaload {o i n : Int} (hd : zD k pc .aaload 1 pc') (ho : lay o = (102, n)) (hi : 0 ≤ i ∧ i < n) (w : zW G k D Q pc' L (zP (C o i) :: st) lay C nx b) : zW G k D Q pc L (zI i :: zP o :: st) lay C nx b := by
  intro p e R s m args below meth c H locs cells slots mc ms ls α₀ lay₀ α cx he hw hL hs hz hlo hc hm hl
  have hne : (lay o).1 ≠ 0 := by rw [ho]; exact Nat.succ_ne_zero 101
  have hm1 : o ≠ -1 := fun q => hne (by rw [q]; exact hw.2.2.2.1)
  obtain ⟨-, -, g3, g4, g5, g6, g7, g8⟩ := hw.2.2.2.2.1 o hne (by rw [ho]; exact Nat.le_of_ble_eq_true rfl)
  rw [ho] at g6
  have ha := zcell_ar g7 ho (Nat.not_lt.mpr (Nat.le_of_ble_eq_true rfl))
  rw [List.map_cons, List.map_cons, zc_P α hm1]
  refine va_aldq (D := G.2.2.1) (cl := vwCl) (tys := zTys G) cx.1 cx.2.1 cx.2.2.2.2.2.2.2.2.2.1.1 (zP1 ha rfl) 0 2 rfl rfl (zvin hi g6) hd.1 ?_
  rw [hd.2, znat hi.1 (Int.lt_trans hi.2 g6), Int.toNat_of_nonneg hi.1]
  have e1 : va_rf (zopt α (C o i)) = zc α (zP (C o i)) := by
    by_cases h : C o i = -1
    · rw [h]; rfl
    · rw [zc_P α h]
      unfold zopt
      rw [if_neg h]
      rfl
  show W _ _ _ _ _ _ _ _ _ _ _ _ _ _ _ (F0 m pc' ls (va_rf (zopt α (C o i)) :: st.map (zc α)))
  rw [e1]
  exact w p e R s m args below meth c H locs cells slots mc ms ls α₀ lay₀ α cx he hw hL (zok_c (fun _ => g8.2 (by rw [ho]) i) (zok_t (zok_t hs))) hz hlo hc hm hl
/-- the script -/
theorem z_sload {i n : Int} (hd : zD k pc .iaload 1 pc') (ho : lay (-5) = (103, n)) (hi : 0 ≤ i ∧ i < n) (hn : n < 2147483648) (w : zW G k D Q pc' L (zI (C (-5) i) :: st) lay C nx b) : zW G k D Q pc L (zI i :: zP (-5) :: st) lay C nx b := by
  intro p e R s m args below meth c H locs cells slots mc ms ls α₀ lay₀ α cx he hw hL hs hz hlo hc hm hl
  obtain ⟨-, z2, z3, z4⟩ := (hw.2.2.2.2.2.2.2.2 (-5)).1 (by rw [ho])
  obtain ⟨⟨scr, x1, x2, x3, x4, x5⟩, hbl⟩ := cx.2.2.2.2.2.2.2.2.2.1.2.2
  obtain ⟨hbl, -⟩ := hbl
  rw [ho] at z3
  have z3 : n = (G.2.2.2.2.1.2.1 : Int) := z3
  rw [List.map_cons, List.map_cons, zc_P α (show (-5 : Int) ≠ -1 by decide), z2]
  have hin := zvin hi hn
  rw [show n.toNat = G.2.2.2.2.1.2.1 by omega] at hin
  have hlt : i.toNat < G.2.2.2.2.1.2.1 := by omega
  have e9 := z4 i.toNat hlt
  rw [Int.toNat_of_nonneg hi.1] at e9
  refine W.iald (v := .int (Int32.ofInt (C (-5) i))) cx.1 cx.2.1 (by rw [hw.1 _ hbl]; exact x1) x2 x3 (by rw [x4]; exact hin) (by rw [znat hi.1 (by omega), x5 _ hlt, ← e9]) rfl rfl hd.1 ?_
  show W _ _ _ _ _ _ _ _ _ _ _ _ _ _ _ (F0 m (pc + 1) ls _)
  rw [hd.2]
  exact w p e R s m args below meth c H locs cells slots mc ms ls α₀ lay₀ α cx he hw hL (zok_c zok_I (zok_t (zok_t hs))) hz hlo hc hm hl
theorem z_slen {n : Int} (hd : zD k pc .arraylength 1 pc') (ho : lay (-5) = (103, n)) (w : zW G k D Q pc' L (zI n :: st) lay C nx b) : zW G k D Q pc L (zP (-5) :: st) lay C nx b := by
  intro p e R s m args below meth c H locs cells slots mc ms ls α₀ lay₀ α cx he hw hL hs hz hlo hc hm hl
  obtain ⟨-, z2, z3, z4⟩ := (hw.2.2.2.2.2.2.2.2 (-5)).1 (by rw [ho])
  obtain ⟨⟨scr, x1, x2, x3, x4, x5⟩, hbl⟩ := cx.2.2.2.2.2.2.2.2.2.1.2.2
  obtain ⟨hbl, -⟩ := hbl
  rw [ho] at z3
  have z3 : n = (G.2.2.2.2.1.2.1 : Int) := z3
  rw [List.map_cons, zc_P α (show (-5 : Int) ≠ -1 by decide), z2]
  refine W.alen (n := Int32.ofInt n) cx.1 cx.2.1 (by rw [hw.1 _ hbl]; exact x1) x2 (by rw [x4, z3]; rfl) rfl rfl hd.1 ?_
  show W _ _ _ _ _ _ _ _ _ _ _ _ _ _ _ (F0 m (pc + 1) ls _)
  rw [hd.2]
  exact w p e R s m args below meth c H locs cells slots mc ms ls α₀ lay₀ α cx he hw hL (zok_c zok_I (zok_t hs)) hz hlo hc hm hl
theorem z_alen {o n : Int} (hd : zD k pc .arraylength 1 pc') (ho : lay o = (100, n)) (w : zW G k D Q pc' L (zI n :: st) lay C nx b) : zW G k D Q pc L (zP o :: st) lay C nx b := by
  intro p e R s m args below meth c H locs cells slots mc ms ls α₀ lay₀ α cx he hw hL hs hz hlo hc hm hl
  have hne : (lay o).1 ≠ 0 := by rw [ho]; exact Nat.succ_ne_zero 99
  have hm1 : o ≠ -1 := fun q => hne (by rw [q]; exact hw.2.2.2.1)
  obtain ⟨-, -, g3, g4, g5, g6, g7, g8⟩ := hw.2.2.2.2.1 o hne (by rw [ho]; exact Nat.le_of_ble_eq_true rfl)
  rw [ho] at g5
  have ha := zcell_ar g7 ho (Nat.not_lt.mpr (Nat.le_of_ble_eq_true rfl))
  rw [List.map_cons, zc_P α hm1]
  refine va_alen (v := Int32.ofInt n) (D := G.2.2.1) (cl := vwCl) (tys := zTys G) cx.1 cx.2.1 cx.2.2.2.2.2.2.2.2.2.1.1 (zP1 (x := (n.toNat, .inl (fun j : Nat => Int32.ofInt (C o j)))) ha rfl) 0 0 rfl rfl (by show Int32.ofInt (n.toNat : Int) = _; rw [Int.toNat_of_nonneg g5]) hd.1 ?_
  rw [hd.2]
  exact w p e R s m args below meth c H locs cells slots mc ms ls α₀ lay₀ α cx he hw hL (zok_c zok_I (zok_t hs)) hz hlo hc hm hl
theorem z_alenL {o n : Int} (hd : zD k pc .arraylength 1 pc') (ho : lay o = (101, n)) (w : zW G k D Q pc' L (zI n :: st) lay C nx b) : zW G k D Q pc L (zP o :: st) lay C nx b := by
  intro p e R s m args below meth c H locs cells slots mc ms ls α₀ lay₀ α cx he hw hL hs hz hlo hc hm hl
  have hne : (lay o).1 ≠ 0 := by rw [ho]; exact Nat.succ_ne_zero 100
  have hm1 : o ≠ -1 := fun q => hne (by rw [q]; exact hw.2.2.2.1)
  obtain ⟨-, -, g3, g4, g5, g6, g7, g8⟩ := hw.2.2.2.2.1 o hne (by rw [ho]; exact Nat.le_of_ble_eq_true rfl)
  rw [ho] at g5
  have ha := zcell_ar g7 ho (Nat.not_lt.mpr (Nat.le_of_ble_eq_true rfl))
  rw [List.map_cons, zc_P α hm1]
  refine va_alen (v := Int32.ofInt n) (D := G.2.2.1) (cl := vwCl) (tys := zTys G) cx.1 cx.2.1 cx.2.2.2.2.2.2.2.2.2.1.1 (zP1 (x := (n.toNat, .inr (.inl (fun j : Nat => Int64.ofInt (C o j))))) ha rfl) 0 1 rfl rfl (by show Int32.ofInt (n.toNat : Int) = _; rw [Int.toNat_of_nonneg g5]) hd.1 ?_
  rw [hd.2]
  exact w p e R s m args below meth c H locs cells slots mc ms ls α₀ lay₀ α cx he hw hL (zok_c zok_I (zok_t hs)) hz hlo hc hm hl
theorem z_alenP {o n : Int} (hd : zD k pc .arraylength 1 pc') (ho : lay o = (102, n)) (w : zW G k D Q pc' L (zI n :: st) lay C nx b) : zW G k D Q pc L (zP o :: st) lay C nx b := by
  intro p e R s m args below meth c H locs cells slots mc ms ls α₀ lay₀ α cx he hw hL hs hz hlo hc hm hl
  have hne : (lay o).1 ≠ 0 := by rw [ho]; exact Nat.succ_ne_zero 101
  have hm1 : o ≠ -1 := fun q => hne (by rw [q]; exact hw.2.2.2.1)
  obtain ⟨-, -, g3, g4, g5, g6, g7, g8⟩ := hw.2.2.2.2.1 o hne (by rw [ho]; exact Nat.le_of_ble_eq_true rfl)
  rw [ho] at g5
  have ha := zcell_ar g7 ho (Nat.not_lt.mpr (Nat.le_of_ble_eq_true rfl))
  rw [List.map_cons, zc_P α hm1]
  refine va_alen (v := Int32.ofInt n) (D := G.2.2.1) (cl := vwCl) (tys := zTys G) cx.1 cx.2.1 cx.2.2.2.2.2.2.2.2.2.1.1 (zP1 (x := (n.toNat, .inr (.inr (.inr (.inr (fun j : Nat => zopt α (C o j))))))) ha rfl) 0 2 rfl rfl (by show Int32.ofInt (n.toNat : Int) = _; rw [Int.toNat_of_nonneg g5]) hd.1 ?_
  rw [hd.2]
  exact w p e R s m args below meth c H locs cells slots mc ms ls α₀ lay₀ α cx he hw hL (zok_c zok_I (zok_t hs)) hz hlo hc hm hl
theorem z_iastore {o i n x : Int} (hd : zD k pc .iastore 1 pc') (ho : lay o = (100, n)) (hi : 0 ≤ i ∧ i < n) (w : zW G k D Q pc' L st lay (zset C o i x) nx b) : zW G k D Q pc L (zI x :: zI i :: zP o :: st) lay C nx b := by
  intro p e R s m args below meth c H locs cells slots mc ms ls α₀ lay₀ α cx he hw hL hs hz hlo hc hm hl
  have hne : (lay o).1 ≠ 0 := by rw [ho]; exact Nat.succ_ne_zero 99
  have h102 : (lay o).1 ≤ 102 := by rw [ho]; exact Nat.le_of_ble_eq_true rfl
  have hm1 : o ≠ -1 := fun q => hne (by rw [q]; exact hw.2.2.2.1)
  obtain ⟨-, -, g3, g4, g5, g6, g7, g8⟩ := hw.2.2.2.2.1 o hne h102
  rw [ho] at g6
  have hk : ¬ 100 < 100 := Nat.not_lt.mpr (Nat.le_of_ble_eq_true rfl)
  have ha := zcell_ar g7 ho hk
  rw [List.map_cons, List.map_cons, List.map_cons, zc_P α hm1]
  have hv := zvin hi g6
  refine W.iast (x := Int32.ofInt x) cx.1 cx.2.1 ha ((cx.2.2.2.2.2.2.2.2.2.1.1.2 0 _ rfl).1 n.toNat (fun j : Nat => .int (Int32.ofInt (C o j)))) (fun q => by cases q) (by rw [zArr_i, arrV_size]; exact hv) rfl rfl hd.1 fun H1 e1 e2 e3 => ?_
  show W _ _ _ _ _ _ _ _ _ _ _ _ _ _ _ (F0 m (pc + 1) ls _)
  rw [hd.2]
  refine w p e R s m args below meth c H1 _ cells slots mc ms ls α₀ lay₀ α cx he (hw.upd hne h102 e2 e3 (zcell_mk ho hk ?_) (zrefs_num ho hk (by decide))) hL (zok_t (zok_t (zok_t hs))) (by rw [e2]; exact hz) (fun q hq => (List.mem_append.mp hq).elim (hlo q) (fun z => by rw [List.mem_singleton.mp z]; exact g3)) hc hm hl
  rw [e1, zArr_i, zArr_i, arrV_store]
  congr 2
  funext q
  unfold updV
  rw [znat hi.1 (Int.lt_trans hi.2 g6)]
  by_cases hq : q = i.toNat
  · rw [if_pos hq, show (q : Int) = i by omega, zset_s]
  · rw [if_neg hq, zset_j (by omega)]
theorem z_lastore {o i n x : Int} (hd : zD k pc .lastore 1 pc') (ho : lay o = (101, n)) (hi : 0 ≤ i ∧ i < n) (w : zW G k D Q pc' L st lay (zset C o i x) nx b) : zW G k D Q pc L (zJ x :: zI i :: zP o :: st) lay C nx b := by
  intro p e R s m args below meth c H locs cells slots mc ms ls α₀ lay₀ α cx he hw hL hs hz hlo hc hm hl
  have hne : (lay o).1 ≠ 0 := by rw [ho]; exact Nat.succ_ne_zero 100
  have h102 : (lay o).1 ≤ 102 := by rw [ho]; exact Nat.le_of_ble_eq_true rfl
  have hm1 : o ≠ -1 := fun q => hne (by rw [q]; exact hw.2.2.2.1)
  obtain ⟨-, -, g3, g4, g5, g6, g7, g8⟩ := hw.2.2.2.2.1 o hne h102
  rw [ho] at g6
  have hk : ¬ 101 < 100 := Nat.not_lt.mpr (Nat.le_of_ble_eq_true rfl)
  have ha := zcell_ar g7 ho hk
  rw [List.map_cons, List.map_cons, List.map_cons, zc_P α hm1]
  have hv := zvin hi g6
  refine W.last (x := Int64.ofInt x) cx.1 cx.2.1 ha ((cx.2.2.2.2.2.2.2.2.2.1.1.2 1 _ rfl).1 n.toNat (fun j : Nat => .long (Int64.ofInt (C o j)))) (fun q => by cases q) (by rw [zArr_l, arrV_size]; exact hv) rfl rfl hd.1 fun H1 e1 e2 e3 => ?_
  show W _ _ _ _ _ _ _ _ _ _ _ _ _ _ _ (F0 m (pc + 1) ls _)
  rw [hd.2]
  refine w p e R s m args below meth c H1 _ cells slots mc ms ls α₀ lay₀ α cx he (hw.upd hne h102 e2 e3 (zcell_mk ho hk ?_) (zrefs_num ho hk (by decide))) hL (zok_t (zok_t (zok_t hs))) (by rw [e2]; exact hz) (fun q hq => (List.mem_append.mp hq).elim (hlo q) (fun z => by rw [List.mem_singleton.mp z]; exact g3)) hc hm hl
  rw [e1, zArr_l, zArr_l, arrV_store]
  congr 2
  funext q
  unfold updV
  rw [znat hi.1 (Int.lt_trans hi.2 g6)]
  by_cases hq : q = i.toNat
  · rw [if_pos hq, show (q : Int) = i by omega, zset_s]
  · rw [if_neg hq, zset_j (by omega)]
theorem z_aastore {o i n v n' : Int} {ci : Nat} {r : vw_C} (hd : zD k pc .aastore 1 pc') (ho : lay o = (102, n)) (hi : 0 ≤ i ∧ i < n) (hv : lay v = (ci + 1, n')) (hr : vwCl[ci]? = some r) (hC : r.1 = RX1) (w : zW G k D Q pc' L st lay (zset C o i v) nx b) : zW G k D Q pc L (zP v :: zI i :: zP o :: st) lay C nx b := by
  intro p e R s m args below meth c H locs cells slots mc ms ls α₀ lay₀ α cx he hw hL hs hz hlo hc hm hl
  have hne : (lay o).1 ≠ 0 := by rw [ho]; exact Nat.succ_ne_zero 101
  have h102 : (lay o).1 ≤ 102 := by rw [ho]; exact Nat.le_of_ble_eq_true rfl
  have hm1 : o ≠ -1 := fun q => hne (by rw [q]; exact hw.2.2.2.1)
  obtain ⟨-, -, g3, g4, g5, g6, g7, g8⟩ := hw.2.2.2.2.1 o hne h102
  rw [ho] at g6
  have hk : ¬ 102 < 100 := Nat.not_lt.mpr (Nat.le_of_ble_eq_true rfl)
  have ha := zcell_ar g7 ho hk
  have hvne : (lay v).1 ≠ 0 := by rw [hv]; exact Nat.succ_ne_zero ci
  have hvm1 : v ≠ -1 := fun q => hvne (by rw [q]; exact hw.2.2.2.1)
  have hci := z_ci hr
  obtain ⟨-, -, -, -, -, -, v7, -⟩ := hw.2.2.2.2.1 v hvne (by rw [hv]; show ci + 1 ≤ 102; omega)
  obtain ⟨cellV, q1, q2, q3, -⟩ := zcell_ob v7 hv hr
  rw [List.map_cons, List.map_cons, List.map_cons, zc_P α hm1, zc_P α hvm1]
  have hin := zvin hi g6
  have hK := cx.2.2.2.2.2.2.2.2.2.1.1
  have hcls := (hK.1 ci r hr).2
  obtain ⟨kA, comp, k1, k2, k3, -⟩ := (hK.2 2 _ rfl).2
  have hcomp : comp = G.2.2.1.1 ci := Option.some.inj (k3.symm.trans (by rw [← hC]; exact hcls.1))
  subst hcomp
  obtain ⟨kC, hkC, hkk⟩ := hcls.2
  have hlt : (Int32.ofInt i).toNatClampNeg < n.toNat := Nat.not_le.mp fun q => hin (Or.inr q)
  refine W.aast cx.1 cx.2.1 ha (fun q h => by cases h) (fun h => by cases h) k1 k2 rfl hkC ⟨fun q => hin (Or.inl q), by rw [zArr_q, arrV_size]; exact hlt⟩ q1 (fun q h => by rw [q3] at h; cases h) (by rw [q2]; exact hkC) (by rw [q2]; exact va_assign hcls) rfl rfl hd.1 fun H1 e1 e2 e3 => ?_
  show W _ _ _ _ _ _ _ _ _ _ _ _ _ _ _ (F0 m (pc + 1) ls _)
  rw [hd.2]
  refine w p e R s m args below meth c H1 _ cells slots mc ms ls α₀ lay₀ α cx he (hw.upd hne h102 e2 e3 (zcell_mk ho hk ?_) ?_) hL (zok_t (zok_t (zok_t hs))) (by rw [e2]; exact hz) (fun q hq => (List.mem_append.mp hq).elim (hlo q) (fun z => by rw [List.mem_singleton.mp z]; exact g3)) hc hm hl
  · rw [e1, zArr_q, zArr_q, arrV_store]
    congr 2
    funext q
    unfold updV
    rw [znat hi.1 (Int.lt_trans hi.2 g6)]
    by_cases hq : q = i.toNat
    · rw [if_pos hq, show (q : Int) = i by omega, zset_s]
      unfold zopt
      rw [if_neg hvm1]
      rfl
    · rw [if_neg hq, zset_j (by omega)]
  · refine ⟨fun q => ?_, fun _ j => ?_⟩
    · rw [ho] at q; exact absurd q hk
    · by_cases e : j = i
      · rw [e, zset_s]
        exact Or.inr hvne
      · rw [zset_j e]
        exact g8.2 (by rw [ho]) j
/-- the layout with one cell more -/
def zlay (lay : zLay) (o : Int) (kd : Nat) (n : Int) : zLay := fun o' => if o' = o then (kd, n) else lay o'
theorem zlay_s (lay : zLay) (o : Int) (kd : Nat) (n : Int) : zlay lay o kd n o = (kd, n) := by simp [zlay]
theorem zlay_o {lay : zLay} {o o' : Int} {kd : Nat} {n : Int} (h : o' ≠ o) : zlay lay o kd n o' = lay o' := by simp [zlay, h]
/-- the cell o filled with zeros, or with nulls -/
def zzero (C : zMem) (o v : Int) : zMem := fun o' j => if o' = o then v else C o' j
theorem zzero_o {C : zMem} {o o' v : Int} (h : o' ≠ o) : zzero C o v o' = C o' := by funext j; simp [zzero, h]
theorem zzero_s (C : zMem) (o v j : Int) : zzero C o v o j = v := by simp [zzero]
def zup (α : Int → Nat) (o : Int) (a : Nat) : Int → Nat := fun o' => if o' = o then a else α o'
theorem zup_s (α : Int → Nat) (o : Int) (a : Nat) : zup α o a o = a := by simp [zup]
theorem zup_o {α : Int → Nat} {o o' : Int} {a : Nat} (h : o' ≠ o) : zup α o a o' = α o' := by simp [zup, h]
/-- a new object's first contents: zeros, and null -/
def zborn (C : zMem) (o : Int) (r : vw_C) : zMem := fun o' j => if o' = o then (if zTag (r.2.1 j.toNat).2.2.1 = 2 then -1 else 0) else C o' j
theorem zborn_o {C : zMem} {o o' : Int} {r : vw_C} (h : o' ≠ o) : zborn C o r o' = C o' := by funext j; simp [zborn, h]
theorem zExt.new {α : Int → Nat} {n : Int} {kd a : Nat} (h : (lay nx).1 = 0) : zExt α lay (zup α nx a) (zlay lay nx kd n) := fun o ho => by
  have e : o ≠ nx := fun q => ho (by rw [q]; exact h)
  exact ⟨zup_o e, zlay_o e⟩
theorem zCell.ext {α α' : Int → Nat} {lay' : zLay} {C' : zMem} {o : Int} {H H1 : Heap} (h : zCell G α lay C o H) (he : zExt α lay α' lay') (ho : (lay o).1 ≠ 0) (hr : zRefs lay C o) (hk : (lay o).1 ≤ 102) (hC : C' o = C o) (hH : H1[α o]? = H[α o]?) : zCell G α' lay' C' o H1 := by
  obtain ⟨a1, a2⟩ := he o ho
  unfold zCell at h ⊢
  rw [a1, a2]
  split
  · rename_i h0
    rw [if_pos h0] at h
    obtain ⟨r, h1, h2⟩ := h
    refine ⟨r, h1, (h2.kept hH).to (fun j hj => ?_)⟩
    unfold zfv
    rw [hC]
    refine (zc.ext he ?_).symm
    intro ht
    exact hr.1 h0 r j h1 hj ht
  · rename_i h0
    rw [if_neg h0] at h
    rw [hH, h]
    unfold zArr
    rw [hC]
    by_cases k0 : (lay o).1 = 100
    · rw [if_pos k0, if_pos k0]
    · by_cases k1 : (lay o).1 = 101
      · rw [if_neg k0, if_neg k0, if_pos k1, if_pos k1]
      · rw [if_neg k0, if_neg k0, if_neg k1, if_neg k1]
        congr 7
        funext j
        unfold zopt
        by_cases e : C o j = -1
        · rw [if_pos e, if_pos e]
        · rw [if_neg e, if_neg e]
          rcases hr.2 (by omega) j with q | q
          · exact absurd q e
          · rw [(he _ q).1]
theorem zRefs.ext {lay' : zLay} {C' : zMem} {o : Int} (h : zRefs lay C o) (he : ∀ o, (lay o).1 ≠ 0 → lay' o = lay o) (ho : (lay o).1 ≠ 0) (hC : C' o = C o) : zRefs lay' C' o := by
  unfold zRefs at h ⊢
  rw [he o ho, hC]
  have t : ∀ x : Int, (x = -1 ∨ (lay x).1 ≠ 0) → (x = -1 ∨ (lay' x).1 ≠ 0) := fun x hx => hx.imp id (fun q => by rw [he x q]; exact q)
  exact ⟨fun a r j b1 b2 b3 => t _ (h.1 a r j b1 b2 b3), fun a j => t _ (h.2 a j)⟩
/-- a cell more in the world -/
theorem zWR.new {α : Int → Nat} {C' : zMem} {H H1 : Heap} {kd : Nat} {n : Int} (h : zWR G α lay C nx H) (hk : kd ≠ 0) (hk2 : kd ≤ 102) (hn : 0 ≤ n ∧ n < 2147483648) (hz : H1.size = H.size + 1) (hH : ∀ q : Nat, q < H.size → H1[q]? = H[q]?) (hC : ∀ o, o ≠ nx → C' o = C o)
    (hc : zCell G (zup α nx H.size) (zlay lay nx kd n) C' nx H1) (hr : zRefs (zlay lay nx kd n) C' nx) : zWR G (zup α nx H.size) (zlay lay nx kd n) C' (nx + 1) H1 := by
  obtain ⟨a1, a2, a3, a4, a5, a6, a7, a8, a9⟩ := h
  have h0 : (lay nx).1 = 0 := a7 nx (Int.le_refl _)
  have he : zExt α lay (zup α nx H.size) (zlay lay nx kd n) := zExt.new h0
  have hel : ∀ o, (lay o).1 ≠ 0 → (zlay lay nx kd n) o = lay o := fun o ho => (he o ho).2
  have ne : ∀ o, (zlay lay nx kd n o).1 ≠ 0 → o ≠ nx → (lay o).1 ≠ 0 := fun o h1 h2 => by rwa [zlay_o h2] at h1
  refine ⟨fun q hq => (hH q (by omega)).trans (a1 q hq), by omega, by omega, by rw [zlay_o (by omega)]; exact a4, fun o h1 h2 => ?_, fun o o' h1 h2 h3 h4 q => ?_, fun o ho => by rw [zlay_o (by omega)]; exact a7 o (by omega), fun o ho => ?_, fun o => ?_⟩
  · by_cases e : o = nx
    · subst e
      rw [zup_s, zlay_s]
      exact ⟨a3, by omega, a2, by omega, hn.1, hn.2, hc, hr⟩
    · have h1' := ne o h1 e
      rw [zlay_o e] at h2 ⊢
      obtain ⟨q1, q2, q3, q4, q5, q6, q7, q8⟩ := a5 o h1' h2
      rw [zup_o e]
      exact ⟨q1, by omega, q3, by omega, q5, q6, q7.ext he h1' q8 h2 (hC o e) (hH _ q4), q8.ext hel h1' (hC o e)⟩
  · by_cases e : o = nx
    · by_cases e' : o' = nx
      · rw [e, e']
      · rw [e, zup_s, zup_o e'] at q
        have h3' := ne o' h3 e'
        rw [zlay_o e'] at h4
        have := (a5 o' h3' h4).2.2.2.1
        omega
    · have h1' := ne o h1 e
      rw [zlay_o e] at h2
      by_cases e' : o' = nx
      · rw [e', zup_s, zup_o e] at q
        have := (a5 o h1' h2).2.2.2.1
        omega
      · have h3' := ne o' h3 e'
        rw [zlay_o e'] at h4
        rw [zup_o e, zup_o e'] at q
        exact a6 o o' h1' h2 h3' h4 q
  · by_cases e : o = nx
    · subst e
      rw [zlay_s]
      exact hk2
    · rw [zlay_o e]
      exact a8 o ho
  · by_cases e : o = nx
    · subst e
      refine ⟨fun q => ?_, fun q => ?_, fun q => ?_⟩ <;> (rw [zlay_s] at q; simp only at q; omega)
    · obtain ⟨z1, z2⟩ := a9 o
      unfold zOld
      rw [zlay_o e, zup_o e, hC o e]
      exact ⟨z1, z2⟩
theorem z_newi {n : Int} {b1 b2 : Nat} (hd : zD k pc (.newarray .int) 2 pc') (hA : Cond.arrayClass .int ∈ zTg) (hn : 0 ≤ n ∧ n ≤ 60000000) (w : zW G k D Q pc' L (zP nx :: st) (zlay lay nx 100 n) (zzero C nx 0) (nx + 1) (b1, b2)) : zW G k D Q pc L (zI n :: st) lay C nx (b1 + 1, b2 + n.toNat) := by
  intro p e R s m args below meth c H locs cells slots mc ms ls α₀ lay₀ α cx he hw hL hs hz hlo hc hm hl
  have h0 : (lay nx).1 = 0 := hw.2.2.2.2.2.2.1 nx (Int.le_refl _)
  have hnx := hw.2.2.1
  have hR1 := cx.2.2.2.2.2.2.2.2.2.2.2.2.2.2.1
  have hR2 := cx.2.2.2.2.2.2.2.2.2.2.2.2.2.2.2.1
  refine va_newaK (atype := .int) (N := n.toNat) cx.1 cx.2.1 (cx.2.2.2.2.2.1 _ hA) rfl hd.1 rfl (fun q => absurd ((zlt (x := n) (y := 0) ⟨by omega, by omega⟩ ⟨by omega, by omega⟩).mp q) (by omega)) (znat (i := n) hn.1 (by omega)) (by show n.toNat * 4 ≤ 536870912; omega) (by omega) (by omega) rfl fun H1 cA e1 e2 e3 hAr hNm => ?_
  show W _ _ _ _ _ _ _ _ _ _ _ _ _ _ _ (F0 m (pc + 2) ls _)
  rw [hd.2]
  have hcA : cA = G.2.2.2.1 0 := Option.some.inj (hNm.symm.trans (cx.2.2.2.2.2.2.2.2.2.1.1.2 0 _ rfl).2)
  have he2 : zExt α lay (zup α nx H.size) (zlay lay nx 100 n) := zExt.new h0
  have hWR := hw.new (C' := zzero C nx 0) (kd := 100) (n := n) (by decide) (by decide) ⟨hn.1, by omega⟩ e2 e3 (fun o ho => zzero_o ho) (zcell_mk (zlay_s _ _ _ _) (by decide) (by
    rw [zup_s, e1, hcA, zArr_i]
    congr 2
    funext j
    rw [zzero_s]
    rfl)) (zrefs_num (zlay_s _ _ _ _) (by decide) (by decide))
  have hst : (Value.ref H.size :: st.map (zc α)) = (zP nx :: st).map (zc (zup α nx H.size)) := by
    rw [List.map_cons, zc_P _ (by omega), zup_s]
    congr 1
    exact List.map_congr_left fun v hv => (zc.ext he2 (zok_t hs v hv)).symm
  show W _ _ _ _ _ _ _ _ _ _ _ _ _ _ _ (F0 m pc' ls (Value.ref H.size :: st.map (zc α)))
  rw [hst]
  exact w p e R s m args below meth c H1 locs (cells + 1) (slots + n.toNat) mc ms ls α₀ lay₀ _ cx (he.trans he2) hWR (fun v hv => (hL v hv).ext he2) (zok_c (zok_P (by rw [zlay_s]; exact Nat.succ_ne_zero _)) (fun v hv => (zok_t hs v hv).ext he2)) (by omega) hlo (by simp only at hc ⊢; omega) (by simp only at hm ⊢; omega) (hl.ext he2 hL)
theorem z_newl {n : Int} {b1 b2 : Nat} (hd : zD k pc (.newarray .long) 2 pc') (hA : Cond.arrayClass .long ∈ zTg) (hn : 0 ≤ n ∧ n ≤ 60000000) (w : zW G k D Q pc' L (zP nx :: st) (zlay lay nx 101 n) (zzero C nx 0) (nx + 1) (b1, b2)) : zW G k D Q pc L (zI n :: st) lay C nx (b1 + 1, b2 + n.toNat) := by
  intro p e R s m args below meth c H locs cells slots mc ms ls α₀ lay₀ α cx he hw hL hs hz hlo hc hm hl
  have h0 : (lay nx).1 = 0 := hw.2.2.2.2.2.2.1 nx (Int.le_refl _)
  have hnx := hw.2.2.1
  have hR1 := cx.2.2.2.2.2.2.2.2.2.2.2.2.2.2.1
  have hR2 := cx.2.2.2.2.2.2.2.2.2.2.2.2.2.2.2.1
  refine va_newaK (atype := .long) (N := n.toNat) cx.1 cx.2.1 (cx.2.2.2.2.2.1 _ hA) rfl hd.1 rfl (fun q => absurd ((zlt (x := n) (y := 0) ⟨by omega, by omega⟩ ⟨by omega, by omega⟩).mp q) (by omega)) (znat (i := n) hn.1 (by omega)) (by show n.toNat * 8 ≤ 536870912; omega) (by omega) (by omega) rfl fun H1 cA e1 e2 e3 hAr hNm => ?_
  show W _ _ _ _ _ _ _ _ _ _ _ _ _ _ _ (F0 m (pc + 2) ls _)
  rw [hd.2]
  have hcA : cA = G.2.2.2.1 1 := Option.some.inj (hNm.symm.trans (cx.2.2.2.2.2.2.2.2.2.1.1.2 1 _ rfl).2)
  have he2 : zExt α lay (zup α nx H.size) (zlay lay nx 101 n) := zExt.new h0
  have hWR := hw.new (C' := zzero C nx 0) (kd := 101) (n := n) (by decide) (by decide) ⟨hn.1, by omega⟩ e2 e3 (fun o ho => zzero_o ho) (zcell_mk (zlay_s _ _ _ _) (by decide) (by
    rw [zup_s, e1, hcA, zArr_l]
    congr 2
    funext j
    rw [zzero_s]
    rfl)) (zrefs_num (zlay_s _ _ _ _) (by decide) (by decide))
  have hst : (Value.ref H.size :: st.map (zc α)) = (zP nx :: st).map (zc (zup α nx H.size)) := by
    rw [List.map_cons, zc_P _ (by omega), zup_s]
    congr 1
    exact List.map_congr_left fun v hv => (zc.ext he2 (zok_t hs v hv)).symm
  show W _ _ _ _ _ _ _ _ _ _ _ _ _ _ _ (F0 m pc' ls (Value.ref H.size :: st.map (zc α)))
  rw [hst]
  exact w p e R s m args below meth c H1 locs (cells + 1) (slots + n.toNat) mc ms ls α₀ lay₀ _ cx (he.trans he2) hWR (fun v hv => (hL v hv).ext he2) (zok_c (zok_P (by rw [zlay_s]; exact Nat.succ_ne_zero _)) (fun v hv => (zok_t hs v hv).ext he2)) (by omega) hlo (by simp only at hc ⊢; omega) (by simp only at hm ⊢; omega) (hl.ext he2 hL)
theorem z_newq {n : Int} {i b1 b2 : Nat} (hd : zD k pc (.anewarray i) 3 pc') (hl9 : Cond.classLink k.1.cls i RX1 ∈ zTg) (hA : ∀ (s : State) (args : Array Value), (∀ w ∈ zTg, w.before args s = true) → zKn G s → va_AO RX1 s) (hn : 0 ≤ n ∧ n ≤ 60000000) (w : zW G k D Q pc' L (zP nx :: st) (zlay lay nx 102 n) (zzero C nx (-1)) (nx + 1) (b1, b2)) : zW G k D Q pc L (zI n :: st) lay C nx (b1 + 1, b2 + n.toNat) := by
  intro p e R s m args below meth c H locs cells slots mc ms ls α₀ lay₀ α cx he hw hL hs hz hlo hc hm hl
  have h0 : (lay nx).1 = 0 := hw.2.2.2.2.2.2.1 nx (Int.le_refl _)
  have hnx := hw.2.2.1
  have hR1 := cx.2.2.2.2.2.2.2.2.2.2.2.2.2.2.1
  have hR2 := cx.2.2.2.2.2.2.2.2.2.2.2.2.2.2.2.1
  have hN : (Int32.ofInt n).toNatClampNeg = n.toNat := znat hn.1 (by omega)
  refine W.anew cx.1 cx.2.1 cx.2.2.2.2.1 (cx.2.2.2.2.2.1 _ hl9) (va_AO.use (hA s args cx.2.2.2.2.2.1 cx.2.2.2.2.2.2.2.2.2.1)) rfl hd.1 rfl (fun q => absurd ((zlt (x := n) (y := 0) ⟨by omega, by omega⟩ ⟨by omega, by omega⟩).mp q) (by omega)) (by rw [hN]; omega) (by omega) (by rw [hN]; omega) fun cA kA comp f1 f2 f3 f4 => ?_
  rw [hN]
  generalize hH1 : H.push ({ cls := cA, slots := Array.replicate n.toNat .null, vm := .none } : Cell) = H1
  have e2 : H1.size = H.size + 1 := by rw [← hH1]; simp
  have e3 : ∀ q : Nat, q < H.size → H1[q]? = H[q]? := fun q hq => by rw [← hH1, Array.getElem?_push_lt hq, Array.getElem?_eq_getElem hq]
  have e1 : H1[H.size]? = some (arrV cA n.toNat (fun _ => Value.null)) := by
    rw [← hH1, Array.getElem?_push_size]
    congr 1
    show ({ cls := cA, slots := Array.replicate n.toNat .null, vm := .none } : Cell) = { cls := cA, slots := Array.ofFn (n := n.toNat) fun j => Value.null, vm := .none }
    congr 1
    apply Array.ext
    · simp
    · intro i h1 h2; simp
  show W _ _ _ _ _ _ _ _ _ _ _ _ _ _ _ (F0 m (pc + 3) ls _)
  rw [hd.2]
  obtain ⟨kB, cB, k1, k2, k3, k4⟩ := (cx.2.2.2.2.2.2.2.2.2.1.1.2 2 _ rfl).2
  have hcA : cA = G.2.2.2.1 2 := Option.some.inj (f1.symm.trans k4)
  have he2 : zExt α lay (zup α nx H.size) (zlay lay nx 102 n) := zExt.new h0
  have hWR := hw.new (C' := zzero C nx (-1)) (kd := 102) (n := n) (by decide) (by decide) ⟨hn.1, by omega⟩ e2 e3 (fun o ho => zzero_o ho) (zcell_mk (zlay_s _ _ _ _) (by decide) (by
    rw [zup_s, e1, hcA, zArr_q]
    congr 2
    funext j
    rw [zzero_s]
    rfl)) ⟨fun q => absurd q (by rw [zlay_s]; exact Nat.not_lt.mpr (Nat.le_of_ble_eq_true rfl)), fun _ j => by rw [zzero_s]; exact Or.inl rfl⟩
  have hst : (Value.ref H.size :: st.map (zc α)) = (zP nx :: st).map (zc (zup α nx H.size)) := by
    rw [List.map_cons, zc_P _ (by omega), zup_s]
    congr 1
    exact List.map_congr_left fun v hv => (zc.ext he2 (zok_t hs v hv)).symm
  show W _ _ _ _ _ _ _ _ _ _ _ _ _ _ _ (F0 m pc' ls (Value.ref H.size :: st.map (zc α)))
  rw [hst]
  exact w p e R s m args below meth c H1 locs (cells + 1) (slots + n.toNat) mc ms ls α₀ lay₀ _ cx (he.trans he2) hWR (fun v hv => (hL v hv).ext he2) (zok_c (zok_P (by rw [zlay_s]; exact Nat.succ_ne_zero _)) (fun v hv => (zok_t hs v hv).ext he2)) (by omega) hlo (by simp only at hc ⊢; omega) (by simp only at hm ⊢; omega) (hl.ext he2 hL)
theorem z_new {i ci b1 b2 N : Nat} {r : vw_C} (hd : zD k pc (.new i) 3 pc') (hr : vwCl[ci]? = some r) (hN : r.2.2 = N) (h1 : Cond.classLink k.1.cls i r.1 ∈ zTg) (h2 : Cond.instantiable r.1 r.2.2 ∈ zTg) (h3 : Cond.initialized r.1 ∈ zTg) (w : zW G k D Q pc' L (zP nx :: st) (zlay lay nx (ci + 1) N) (zborn C nx r) (nx + 1) (b1, b2)) : zW G k D Q pc L st lay C nx (b1 + 1, b2 + N) := by
  subst hN
  intro p e R s m args below meth c H locs cells slots mc ms ls α₀ lay₀ α cx he hw hL hs hz hlo hc hm hl
  have h0 : (lay nx).1 = 0 := hw.2.2.2.2.2.2.1 nx (Int.le_refl _)
  have hnx := hw.2.2.1
  have hrm : r ∈ vwCl := List.mem_of_getElem? hr
  have hR1 := cx.2.2.2.2.2.2.2.2.2.2.2.2.2.2.1
  have hR2 := cx.2.2.2.2.2.2.2.2.2.2.2.2.2.2.2.1
  have hts := fun w hw => cx.2.2.2.2.2.1 w hw
  have hK := cx.2.2.2.2.2.2.2.2.2.1.1
  have hKn := hK.1 ci _ hr
  have hci := z_ci hr
  refine W.newcK cx.1 cx.2.1 cx.2.2.2.2.1 (hts _ h1) (hts _ h2) (hts _ h3) rfl hd.1 (by omega) (by omega) hKn.2.1 rfl fun H1 kC hkC e1 e2 e3 => ?_
  have hob := u_born (zty r) hts (z_in r hrm) hKn hkC e1 (z_tys hrm)
  show W _ _ _ _ _ _ _ _ _ _ _ _ _ _ _ (F0 m (pc + 3) ls _)
  rw [hd.2]
  have he2 : zExt α lay (zup α nx H.size) (zlay lay nx (ci + 1) (r.2.2 : Nat)) := zExt.new h0
  have hsz : r.2.2 < 2147483648 := z_sz r hrm
  have hWR := hw.new (C' := zborn C nx r) (kd := ci + 1) (n := (r.2.2 : Nat)) (by omega) (by omega) ⟨by omega, by omega⟩ e2 e3 (fun o ho => zborn_o ho) (by
    unfold zCell
    rw [zlay_s, zup_s]
    simp only [Nat.add_sub_cancel]
    rw [if_pos hci]
    refine ⟨r, hr, hob.to (fun j hj => ?_)⟩
    unfold zfv zborn
    rw [if_pos rfl]
    have e9 := z_dflt r hrm j hj
    rw [Int.toNat_natCast]
    exact (e9 (zup α nx H.size))) (by
    refine ⟨fun _ r' j hr' hj hj2 => ?_, fun q => ?_⟩
    · have hrr : r' = r := by
        rw [zlay_s] at hr'
        exact Option.some.inj (hr'.symm.trans hr)
      subst hrr
      left
      unfold zborn
      rw [if_pos rfl, Int.toNat_natCast, if_pos hj2]
    · rw [zlay_s] at q
      have : ci + 1 = 102 := q
      omega)
  have hst : (Value.ref H.size :: st.map (zc α)) = (zP nx :: st).map (zc (zup α nx H.size)) := by
    rw [List.map_cons, zc_P _ (by omega), zup_s]
    congr 1
    exact List.map_congr_left fun v hv => (zc.ext he2 (hs v hv)).symm
  show W _ _ _ _ _ _ _ _ _ _ _ _ _ _ _ (F0 m pc' ls (Value.ref H.size :: st.map (zc α)))
  rw [hst]
  exact w p e R s m args below meth c H1 locs (cells + 1) (slots + r.2.2) mc ms ls α₀ lay₀ _ cx (he.trans he2) hWR (fun v hv => (hL v hv).ext he2) (zok_c (zok_P (by rw [zlay_s]; exact Nat.succ_ne_zero _)) (fun v hv => (hs v hv).ext he2)) (by omega) hlo (by simp only at hc ⊢; omega) (by simp only at hm ⊢; omega) (hl.ext he2 hL)
theorem z_objInit {a : Int} {i : Nat} (hd : zD k pc (.invokespecial i) 3 pc') (h1 : Cond.methodLink k.1.cls i Lib.objectInit ∈ zTg) (ha : a ≠ -1) (hD : 1 ≤ D) (hst : st.length ≤ 10) (w : zW G k D Q pc' L st lay C nx b) : zW G k D Q pc L (zP a :: st) lay C nx b := by
  intro p e R s m args below meth c H locs cells slots mc ms ls α₀ lay₀ α cx he hw hL hs hz hlo hc hm hl
  have hts := fun w hw => cx.2.2.2.2.2.1 w hw
  rw [List.map_cons, zc_P α ha]
  have hsum : ∀ l : List zAV, ((l.map (zc α)).map fun v => v.category).sum ≤ 2 * l.length := by
    intro l
    induction l with
    | nil => exact Nat.le_refl 0
    | cons v l ih =>
      have := zc_cat2 (α := α) (v := v)
      simp only [List.map_cons, List.sum_cons, List.length_cons]
      omega
  have hsm := hsum st
  have hR3 := cx.2.2.2.2.2.2.2.2.2.2.2.2.1
  have hR4 := cx.2.2.2.2.2.2.2.2.2.2.2.2.2.1
  refine W.objInit cx.1 cx.2.1 cx.2.2.2.2.1 (hts _ h1) (hts _ z_oi.1) (hts _ z_oi.2) rfl (by show ls.size = c.maxLocals; rw [hl.1, cx.2.2.1]) rfl hd.1 (by omega) (by show 2 * 0 + _ + 12 ≤ _; omega) ?_
  show W _ _ _ _ _ _ _ _ _ _ _ _ _ _ _ (F0 m (pc + 3) ls _)
  rw [hd.2]
  exact w p e R s m args below meth c H locs cells slots mc ms ls α₀ lay₀ α cx he hw hL (zok_t hs) hz hlo hc hm hl
/-- ends -/
theorem z_return (hd : zD k pc .return_ 1 pc') (hr : k.2.2.2.1 = none) (h : Q (.inl none) lay C nx) : zW G k D Q pc L [] lay C nx b := by
  intro p e R s m args below meth c H locs cells slots mc ms ls α₀ lay₀ α cx he hw hL hs hz hlo hc hm hl
  refine vx_ret (W.widen (k := mc) (n := ms) (by omega) (by omega) ?_)
  exact W.vret cx.1 cx.2.1 (by rw [cx.2.2.2.1, hr]) (fun t ht hW => ⟨none, lay, C, nx, α, rfl, h, by rw [ht]; exact hw, he, (fun v q => by cases q), by rw [ht]; exact hz⟩) hlo hd.1 cx.2.2.2.2.2.2.1
theorem z_ireturn {x : Int} (hd : zD k pc .ireturn 1 pc') (hr : k.2.2.2.1 = some .int) (h : Q (.inl (some (zI x))) lay C nx) : zW G k D Q pc L [zI x] lay C nx b := by
  intro p e R s m args below meth c H locs cells slots mc ms ls α₀ lay₀ α cx he hw hL hs hz hlo hc hm hl
  refine vx_ret (W.widen (k := mc) (n := ms) (by omega) (by omega) ?_)
  exact W.iret cx.1 cx.2.1 (by rw [cx.2.2.2.1, hr]) (fun t ht hW => ⟨some (zI x), lay, C, nx, α, rfl, h, by rw [ht]; exact hw, he, fun v q => by cases Option.some.inj q; exact zok_I, by rw [ht]; exact hz⟩) hlo hd.1 cx.2.2.2.2.2.2.1
theorem z_lreturn {x : Int} (hd : zD k pc .lreturn 1 pc') (hr : k.2.2.2.1 = some .long) (h : Q (.inl (some (zJ x))) lay C nx) : zW G k D Q pc L [zJ x] lay C nx b := by
  intro p e R s m args below meth c H locs cells slots mc ms ls α₀ lay₀ α cx he hw hL hs hz hlo hc hm hl
  refine vx_ret (W.widen (k := mc) (n := ms) (by omega) (by omega) ?_)
  exact W.lret cx.1 cx.2.1 (by rw [cx.2.2.2.1, hr]) (fun t ht hW => ⟨some (zJ x), lay, C, nx, α, rfl, h, by rw [ht]; exact hw, he, fun v q => by cases Option.some.inj q; exact zok_J, by rw [ht]; exact hz⟩) hlo hd.1 cx.2.2.2.2.2.2.1
end ZARR
