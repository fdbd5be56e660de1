/-! Math.max and Math.min. -/
def zmmax (own : String) (idx : Nat) : Prop := Cond.methodLink own idx Lib.Math.max.name ∈ zTg ∧ Cond.static Lib.Math.max.name ∈ zTg ∧ Cond.initialized "java/lang/Math" ∈ zTg ∧ Cond.code Lib.Math.max.name Lib.Math.max.code 2 (some .int) ∈ zTg
theorem zmmax_c : Cond.code yJ9_max_7cf53 cJ9_max_7cf53 2 (some .int) = Cond.code Lib.Math.max.name Lib.Math.max.code 2 (some .int) := rfl
theorem z_max {G : zG} {k : zK} {D pc pc' idx : Nat} {Q : zQ} {L st : List zAV} {lay : zLay} {C : zMem} {nx : Int} {b : Nat × Nat} {a c : Int} {own : String} (hd : zD k pc (.invokestatic idx) 3 pc') (hm : zmmax own idx) (hk : own = k.1.cls) (hD : 1 ≤ D) (hst : st.length ≤ 4) (h : zin a ∧ zin c) (w : zW G k D Q pc' L (zI (if a < c then c else a) :: st) lay C nx b) : zW G k D Q pc L (zI c :: zI a :: st) lay C nx b := by
  subst hk
  intro p e R s m args below meth c' H locs cells slots mc ms ls α₀ lay₀ α cx he hw hL hs hz hlo hc hm' hl
  have hts := cx.2.2.2.2.2.1
  have kk := w p e R s m args below meth c' H locs cells slots mc ms ls α₀ lay₀ α cx he hw hL (zok_c zok_I (zok_t (zok_t hs))) hz hlo hc hm' hl
  have hR3 := cx.2.2.2.2.2.2.2.2.2.2.2.2.1
  have hR4 := cx.2.2.2.2.2.2.2.2.2.2.2.2.2.1
  have hR5 := cx.2.2.2.2.2.2.2.2.2.2.2.2.2.2.1
  have hR6 := cx.2.2.2.2.2.2.2.2.2.2.2.2.2.2.2.1
  have hsm := zc_sum (α := α) st
  refine va_mmax cx.1 cx.2.1 (by rw [cx.2.2.1, hl.1]) cx.2.2.2.2.1 (hts _ hm.1) (hts _ hm.2.1) (hts _ hm.2.2.1) (hts _ hm.2.2.2) (by omega) (by omega) (by omega) (by omega) (x := Int32.ofInt a) (y := Int32.ofInt c) (rest := st.map (zc α)) hd.1 ?_
  rw [hd.2]
  have e2 : (if Int32.ofInt a < Int32.ofInt c then Int32.ofInt c else Int32.ofInt a) = Int32.ofInt (if a < c then c else a) := by
    by_cases q : a < c
    · rw [if_pos q, if_pos ((zlt h.1 h.2).mpr q)]
    · rw [if_neg q, if_neg (fun z => q ((zlt h.1 h.2).mp z))]
  rw [e2]
  exact kk
def zmmin (own : String) (idx : Nat) : Prop := Cond.methodLink own idx Lib.Math.min.name ∈ zTg ∧ Cond.static Lib.Math.min.name ∈ zTg ∧ Cond.initialized "java/lang/Math" ∈ zTg ∧ Cond.code Lib.Math.min.name Lib.Math.min.code 2 (some .int) ∈ zTg
theorem zmmin_c : Cond.code yJ9_min_7cf53 cJ9_min_7cf53 2 (some .int) = Cond.code Lib.Math.min.name Lib.Math.min.code 2 (some .int) := rfl
theorem z_min {G : zG} {k : zK} {D pc pc' idx : Nat} {Q : zQ} {L st : List zAV} {lay : zLay} {C : zMem} {nx : Int} {b : Nat × Nat} {a c : Int} {own : String} (hd : zD k pc (.invokestatic idx) 3 pc') (hm : zmmin own idx) (hk : own = k.1.cls) (hD : 1 ≤ D) (hst : st.length ≤ 4) (h : zin a ∧ zin c) (w : zW G k D Q pc' L (zI (if c < a then c else a) :: st) lay C nx b) : zW G k D Q pc L (zI c :: zI a :: st) lay C nx b := by
  subst hk
  intro p e R s m args below meth c' H locs cells slots mc ms ls α₀ lay₀ α cx he hw hL hs hz hlo hc hm' hl
  have hts := cx.2.2.2.2.2.1
  have kk := w p e R s m args below meth c' H locs cells slots mc ms ls α₀ lay₀ α cx he hw hL (zok_c zok_I (zok_t (zok_t hs))) hz hlo hc hm' hl
  have hR3 := cx.2.2.2.2.2.2.2.2.2.2.2.2.1
  have hR4 := cx.2.2.2.2.2.2.2.2.2.2.2.2.2.1
  have hR5 := cx.2.2.2.2.2.2.2.2.2.2.2.2.2.2.1
  have hR6 := cx.2.2.2.2.2.2.2.2.2.2.2.2.2.2.2.1
  have hsm := zc_sum (α := α) st
  refine va_mmin cx.1 cx.2.1 (by rw [cx.2.2.1, hl.1]) cx.2.2.2.2.1 (hts _ hm.1) (hts _ hm.2.1) (hts _ hm.2.2.1) (hts _ hm.2.2.2) (by omega) (by omega) (by omega) (by omega) (x := Int32.ofInt a) (y := Int32.ofInt c) (rest := st.map (zc α)) hd.1 ?_
  rw [hd.2]
  have e2 : (if Int32.ofInt c < Int32.ofInt a then Int32.ofInt c else Int32.ofInt a) = Int32.ofInt (if c < a then c else a) := by
    by_cases q : c < a
    · rw [if_pos q, if_pos ((zlt h.2 h.1).mpr q)]
    · rw [if_neg q, if_neg (fun z => q ((zlt h.2 h.1).mp z))]
  rw [e2]
  exact kk
