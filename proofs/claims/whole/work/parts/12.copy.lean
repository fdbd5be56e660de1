/-! System.arraycopy of ints; the texts. -/
def zcpy (C : zMem) (a0 a1 sp dp n : Int) : zMem := fun o j => if o = a1 ∧ dp ≤ j ∧ j < dp + n then C a0 (sp + (j - dp)) else C o j
theorem zcpy_o {C : zMem} {a0 a1 sp dp n o : Int} (h : o ≠ a1) : zcpy C a0 a1 sp dp n o = C o := by
  funext j
  unfold zcpy
  rw [if_neg (fun q => h q.1)]
theorem zcpy_in {C : zMem} {a0 a1 sp dp n j : Int} (h : dp ≤ j ∧ j < dp + n) : zcpy C a0 a1 sp dp n a1 j = C a0 (sp + (j - dp)) := by
  unfold zcpy
  rw [if_pos ⟨rfl, h⟩]
theorem zcpy_out {C : zMem} {a0 a1 sp dp n j : Int} (h : ¬ (dp ≤ j ∧ j < dp + n)) : zcpy C a0 a1 sp dp n a1 j = C a1 j := by
  unfold zcpy
  rw [if_neg (fun q => h q.2)]
def zacp (own : String) (idx : Nat) : Prop := Cond.methodLink own idx arraycopyName ∈ zTg ∧ Cond.native arraycopyName ∈ zTg ∧ Cond.static arraycopyName ∈ zTg ∧ Cond.initialized "java/lang/System" ∈ zTg
section ZCPY
variable {G : zG} {k : zK} {D : Nat} {Q : zQ} {pc pc' : Nat} {L st : List zAV} {lay : zLay} {C : zMem} {nx : Int} {b : Nat × Nat}
theorem zWR.updG {α : Int → Nat} {C' : zMem} {H H1 : Heap} {o : Int} (h : zWR G α lay C nx H) (ho : (lay o).1 ≠ 0) (ho2 : (lay o).1 ≤ 102) (hC : ∀ o', o' ≠ o → C' o' = C o') (hz : H1.size = H.size) (hH : ∀ q : Nat, q ≠ α o → H1[q]? = H[q]?) (hc : zCell G α lay C' o H1) (hr : zRefs lay C' o) : zWR G α lay C' nx H1 := by
  obtain ⟨a1, a2, a3, a4, a5, a6, a7, a8, a9⟩ := h
  obtain ⟨p1, p2, p3, -⟩ := a5 o ho ho2
  refine ⟨fun q hq => (hH q (by omega)).trans (a1 q hq), by rw [hz]; exact a2, a3, a4, fun o' h1 h2 => ?_, a6, a7, a8, fun o' => ?_⟩
  · obtain ⟨q1, q2, q3, q4, q5, q6, q7, q8⟩ := a5 o' h1 h2
    refine ⟨q1, q2, q3, by rw [hz]; exact q4, q5, q6, ?_⟩
    by_cases e : o' = o
    · subst e
      exact ⟨hc, hr⟩
    · exact ⟨q7.kept (hC o' e) (hH _ (fun q => e (a6 o' o h1 h2 ho ho2 q))), q8.kept (hC o' e)⟩
  · obtain ⟨z1, z2, z3⟩ := a9 o'
    have e : (lay o').1 = 103 ∨ (lay o').1 = 104 ∨ (lay o').1 = 105 → o' ≠ o := by
      rintro q rfl
      omega
    refine ⟨fun q => ?_, fun q => ?_, fun q => ?_⟩
    · rw [hC o' (e (Or.inl q))]
      exact z1 q
    · rw [hC o' (e (Or.inr (Or.inl q)))]
      exact z2 q
    · rw [hC o' (e (Or.inr (Or.inr q)))]
      exact z3 q
theorem znneg {x : Int} (h : 0 ≤ x ∧ x < 2147483648) : ¬ Int32.ofInt x < 0 := fun q => absurd ((zlt (x := x) (y := 0) ⟨by omega, by omega⟩ ⟨by omega, by omega⟩).mp q) (by omega)
theorem z_copy {a0 a1 sp dp n n0 n1 : Int} {idx : Nat} (hd : zD k pc (.invokestatic idx) 3 pc') (hl9 : zacp k.1.cls idx) (h0 : lay a0 = (100, n0)) (h1 : lay a1 = (100, n1)) (h : 0 ≤ sp ∧ 0 ≤ dp ∧ 0 ≤ n ∧ sp + n ≤ n0 ∧ dp + n ≤ n1) (hD : 1 ≤ D) (hrest : st.length ≤ 4) (w : zW G k D Q pc' L st lay (zcpy C a0 a1 sp dp n) nx b) : zW G k D Q pc L (zI n :: zI dp :: zP a1 :: zI sp :: zP a0 :: st) lay C nx b := by
  intro p e R s m args below meth c H locs cells slots mc ms ls α₀ lay₀ α cx he hw hL hs hz hlo hc hm hl
  have hne0 : (lay a0).1 ≠ 0 := by rw [h0]; exact Nat.succ_ne_zero 99
  have hne1 : (lay a1).1 ≠ 0 := by rw [h1]; exact Nat.succ_ne_zero 99
  have k0 : (lay a0).1 ≤ 102 := by rw [h0]; exact Nat.le_of_ble_eq_true rfl
  have k1 : (lay a1).1 ≤ 102 := by rw [h1]; exact Nat.le_of_ble_eq_true rfl
  have hm0 : a0 ≠ -1 := fun q => hne0 (by rw [q]; exact hw.2.2.2.1)
  have hm1 : a1 ≠ -1 := fun q => hne1 (by rw [q]; exact hw.2.2.2.1)
  obtain ⟨-, -, -, -, -, f6, f7, -⟩ := hw.2.2.2.2.1 a0 hne0 k0
  obtain ⟨-, -, g3, -, -, g6, g7, -⟩ := hw.2.2.2.2.1 a1 hne1 k1
  rw [h0] at f6
  rw [h1] at g6
  have hk : ¬ 100 < 100 := Nat.lt_irrefl _
  have c0 := zcell_ar f7 h0 hk
  have c1 := zcell_ar g7 h1 hk
  rw [zArr_i] at c0 c1
  have hts := cx.2.2.2.2.2.1
  have hK := cx.2.2.2.2.2.2.2.2.2.1.1
  have s1 : 0 ≤ sp ∧ sp < 2147483648 := ⟨h.1, by omega⟩
  have s2 : 0 ≤ dp ∧ dp < 2147483648 := ⟨h.2.1, by omega⟩
  have s3 : 0 ≤ n ∧ n < 2147483648 := ⟨h.2.2.1, by omega⟩
  have hR3 := cx.2.2.2.2.2.2.2.2.2.2.2.2.1
  have hR4 := cx.2.2.2.2.2.2.2.2.2.2.2.2.2.1
  have hsm := zc_sum (α := α) st
  intro T hT X
  obtain ⟨-, kk0, hk0, cm0, hkk0⟩ := (hK.2 0 _ rfl).1 n0.toNat (fun j : Nat => .int (Int32.ofInt (C a0 j)))
  obtain ⟨-, kk1, hk1, cm1, hkk1⟩ := (hK.2 0 _ rfl).1 n1.toNat (fun j : Nat => .int (Int32.ofInt (C a1 j)))
  obtain ⟨vm', X', step⟩ := X.arraycopy cx.1 cx.2.2.2.2.1 (hts _ hl9.1) (hts _ hl9.2.1) (hts _ hl9.2.2.1) (hts _ hl9.2.2.2) (src := α a0) (dst := α a1) (cs := arrV (G.2.2.2.1 0) n0.toNat (fun j : Nat => .int (Int32.ofInt (C a0 j)))) (cd := arrV (G.2.2.2.1 0) n1.toNat (fun j : Nat => .int (Int32.ofInt (C a1 j)))) (srcPos := Int32.ofInt sp) (destPos := Int32.ofInt dp) (n := Int32.ofInt n) (by rw [hT]; exact c0) (by rw [hT]; exact c1)
    (fun _ h => by cases h) (fun _ h => by cases h) (fun h => by cases h) (fun h => by cases h) hk0 hk1 hkk0 hkk1 rfl (znneg s1) (znneg s2) (znneg s3)
    (by rw [zto (x := sp) ⟨by omega, by omega⟩, zto (x := n) ⟨by omega, by omega⟩, arrV_size]; omega)
    (by rw [zto (x := dp) ⟨by omega, by omega⟩, zto (x := n) ⟨by omega, by omega⟩, arrV_size]; omega)
    (fun vm₁ _ i hi => by
      rw [znat s3.1 s3.2] at hi
      have e : (arrV (G.2.2.2.1 0) n0.toNat (fun j : Nat => .int (Int32.ofInt (C a0 j)))).slots.getD ((Int32.ofInt sp).toNatClampNeg + i) .null = .int (Int32.ofInt (C a0 ((Int32.ofInt sp).toNatClampNeg + i : Nat))) := by
        rw [Array.getD_eq_getD_getElem?, arrV_read _ _ (by rw [znat s1.1 s1.2]; omega)]
        rfl
      refine ⟨?_, ?_⟩
      · rw [e]; rfl
      · rw [e]; trivial)
    (g := F0 m pc ls (.int (Int32.ofInt n) :: .int (Int32.ofInt dp) :: .ref (α a1) :: .int (Int32.ofInt sp) :: .ref (α a0) :: st.map (zc α))) rfl (by show ls.size = c.maxLocals; rw [hl.1, cx.2.2.1]) (rest := st.map (zc α)) rfl (by rw [cx.2.1]; exact hd.1) (by omega) (by show 2 * 0 + _ + (5 + 2 + 11) ≤ _; omega)
  have e1 : copied (arrV (G.2.2.2.1 0) n0.toNat (fun j : Nat => .int (Int32.ofInt (C a0 j)))) (arrV (G.2.2.2.1 0) n1.toNat (fun j : Nat => .int (Int32.ofInt (C a1 j)))) (Int32.ofInt sp) (Int32.ofInt dp) (Int32.ofInt n) = arrV (G.2.2.2.1 0) n1.toNat (fun j : Nat => .int (Int32.ofInt (zcpy C a0 a1 sp dp n a1 j))) := by
    refine (va_copied (fun z => Value.int z) _ _ (fun j : Nat => Int32.ofInt (C a0 j)) (fun j : Nat => Int32.ofInt (C a1 j)) ?_).trans ?_
    · show (Int32.ofInt sp).toNatClampNeg + (Int32.ofInt n).toNatClampNeg ≤ _
      rw [znat s1.1 s1.2, znat s3.1 s3.2]
      omega
    · congr 1
      funext j
      show Value.int (va_cpy _ _ (Int32.ofInt sp).toNatClampNeg (Int32.ofInt dp).toNatClampNeg (Int32.ofInt n).toNatClampNeg j) = _
      rw [znat s1.1 s1.2, znat s2.1 s2.2, znat s3.1 s3.2]
      unfold va_cpy
      by_cases hj : dp.toNat ≤ j ∧ j < dp.toNat + n.toNat
      · rw [if_pos hj, zcpy_in (dp := dp) (n := n) (j := (j : Int)) (by omega)]
        show Value.int (Int32.ofInt (C a0 ((sp.toNat + (j - dp.toNat) : Nat) : Int))) = _
        rw [show ((sp.toNat + (j - dp.toNat) : Nat) : Int) = sp + ((j : Int) - dp) by omega]
      · rw [if_neg hj, zcpy_out (dp := dp) (n := n) (j := (j : Int)) (by omega)]
  rw [e1] at X' step
  have hal : α a1 < H.size := (Array.getElem?_eq_some_iff.mp c1).1
  generalize hH1 : H.setIfInBounds (α a1) (arrV (G.2.2.2.1 0) n1.toNat (fun j : Nat => .int (Int32.ofInt (zcpy C a0 a1 sp dp n a1 j)))) = H1
  have hheap : ((T.setVm vm').setCell (α a1) (arrV (G.2.2.2.1 0) n1.toNat (fun j : Nat => .int (Int32.ofInt (zcpy C a0 a1 sp dp n a1 j))))).heap = H1 := by rw [← hH1, ← hT]; rfl
  have oq : ∀ q : Nat, q ≠ α a1 → H1[q]? = H[q]? := fun q hq => by rw [← hH1]; simp [Array.getElem?_setIfInBounds, Ne.symm hq]
  have oz : H1.size = H.size := by rw [← hH1]; simp
  have os : H1[α a1]? = some (arrV (G.2.2.2.1 0) n1.toNat (fun j : Nat => .int (Int32.ofInt (zcpy C a0 a1 sp dp n a1 j)))) := by rw [← hH1]; simp [Array.getElem?_setIfInBounds, hal]
  have kk : ∀ locs' : List Loc, (∀ q ∈ locs', G.2.1.size ≤ q.base) → W p G.1 e R s m args below meth c H1 locs' cells slots (zF G Q α₀ lay₀ below args s mc ms) (F0 m pc' ls (st.map (zc α))) := fun locs' hlo' => w p e R s m args below meth c H1 locs' cells slots mc ms ls α₀ lay₀ α cx he (hw.updG hne1 k1 (fun o' ho' => zcpy_o ho') oz oq (zcell_mk h1 hk (by rw [zArr_i]; exact os)) (zrefs_num h1 hk (by decide))) hL (zok_t (zok_t (zok_t (zok_t (zok_t hs))))) (by rw [oz]; exact hz) hlo' hc hm hl
  obtain ⟨t, b1, b2⟩ := kk _ (by
    intro q hq
    rcases List.mem_append.mp hq with z | z
    · exact hlo q z
    · obtain ⟨y, -, hy⟩ := List.mem_map.mp z
      rw [← hy]
      exact g3) _ hheap X'
  refine ⟨t, ?_, b2⟩
  have hst : (zI n :: zI dp :: zP a1 :: zI sp :: zP a0 :: st).map (zc α) = .int (Int32.ofInt n) :: .int (Int32.ofInt dp) :: .ref (α a1) :: .int (Int32.ofInt sp) :: .ref (α a0) :: st.map (zc α) := by
    simp only [List.map_cons, zc_I, zc_P α hm0, zc_P α hm1]
  rw [hst]
  refine step t ?_
  show Steps p.tables e below (_ : State) t
  rw [← hd.2] at b1
  exact b1
end ZCPY
