/-! What was made is related. -/
theorem coRf_of {c : zMem} {a : Int} (r0_2 : c (a + 0) 2 = a + 1) (r0_3 : c (a + 0) 3 = a + 2) (r0_6 : c (a + 0) 6 = a + 3) (r0_11 : c (a + 0) 11 = a + 4) (r0_12 : c (a + 0) 12 = a + 8) (r0_13 : c (a + 0) 13 = a + 15) (r0_14 : c (a + 0) 14 = a + 17) (r4_4 : c (a + 4) 4 = a + 5) (r4_5 : c (a + 4) 5 = a + 6) (r4_6 : c (a + 4) 6 = a + 7) (r8_1 : c (a + 8) 1 = a + 9) (r8_2 : c (a + 8) 2 = a + 10) (r8_3 : c (a + 8) 3 = a + 11) (r8_4 : c (a + 8) 4 = a + 12) (r8_5 : c (a + 8) 5 = a + 13) (r8_6 : c (a + 8) 6 = a + 14) (r15_1 : c (a + 15) 1 = a + 16) : ∀ q j t, rfCo q j = some t → c (a + q) j = a + t := by
  intro q j t ht
  unfold rfCo at ht
  split at ht
  · rename_i e
    subst e
    split at ht
    · rename_i e; subst e; cases ht; exact r0_2
    split at ht
    · rename_i e; subst e; cases ht; exact r0_3
    split at ht
    · rename_i e; subst e; cases ht; exact r0_6
    split at ht
    · rename_i e; subst e; cases ht; exact r0_11
    split at ht
    · rename_i e; subst e; cases ht; exact r0_12
    split at ht
    · rename_i e; subst e; cases ht; exact r0_13
    split at ht
    · rename_i e; subst e; cases ht; exact r0_14
    · cases ht
  split at ht
  · rename_i e
    subst e
    split at ht
    · rename_i e; subst e; cases ht; exact r4_4
    split at ht
    · rename_i e; subst e; cases ht; exact r4_5
    split at ht
    · rename_i e; subst e; cases ht; exact r4_6
    · cases ht
  split at ht
  · rename_i e
    subst e
    split at ht
    · rename_i e; subst e; cases ht; exact r8_1
    split at ht
    · rename_i e; subst e; cases ht; exact r8_2
    split at ht
    · rename_i e; subst e; cases ht; exact r8_3
    split at ht
    · rename_i e; subst e; cases ht; exact r8_4
    split at ht
    · rename_i e; subst e; cases ht; exact r8_5
    split at ht
    · rename_i e; subst e; cases ht; exact r8_6
    · cases ht
  split at ht
  · rename_i e
    subst e
    split at ht
    · rename_i e; subst e; cases ht; exact r15_1
    · cases ht
  · cases ht
theorem coLay_of {l : zLay} {a : Int} (l0 : l (a + 0) = layCo 0) (l1 : l (a + 1) = layCo 1) (l2 : l (a + 2) = layCo 2) (l3 : l (a + 3) = layCo 3) (l4 : l (a + 4) = layCo 4) (l5 : l (a + 5) = layCo 5) (l6 : l (a + 6) = layCo 6) (l7 : l (a + 7) = layCo 7) (l8 : l (a + 8) = layCo 8) (l9 : l (a + 9) = layCo 9) (l10 : l (a + 10) = layCo 10) (l11 : l (a + 11) = layCo 11) (l12 : l (a + 12) = layCo 12) (l13 : l (a + 13) = layCo 13) (l14 : l (a + 14) = layCo 14) (l15 : l (a + 15) = layCo 15) (l16 : l (a + 16) = layCo 16) (l17 : l (a + 17) = layCo 17) : ∀ q, 0 ≤ q → q < 18 → l (a + q) = layCo q := by
  intro q q0 q1
  have e : q = 0 ∨ q = 1 ∨ q = 2 ∨ q = 3 ∨ q = 4 ∨ q = 5 ∨ q = 6 ∨ q = 7 ∨ q = 8 ∨ q = 9 ∨ q = 10 ∨ q = 11 ∨ q = 12 ∨ q = 13 ∨ q = 14 ∨ q = 15 ∨ q = 16 ∨ q = 17 := by omega
  rcases e with e | e | e | e | e | e | e | e | e | e | e | e | e | e | e | e | e | e <;> subst e <;> assumption
theorem Nw_top {lay l1 l2 l : zLay} {C c1 c2 c : zMem} {o : Int} (h1 : NwX11a lay l1 C c1 o) (h2 : Md 12 l1 l2 c1 c2 o) (h3 : NwX11b l2 l c2 c o) (h0 : 0 ≤ o) : TopL l o := by
  have L2 := coLay_of (l := l) (a := o + 2) ((h3.bl _ (by omega)).trans ((h2.bl _ (by omega)).trans ((h1.l2 _ (by omega)).trans (by decide)))) ((h3.bl _ (by omega)).trans ((h2.bl _ (by omega)).trans ((h1.l3 _ (by omega)).trans (by decide)))) ((h3.bl _ (by omega)).trans ((h2.bl _ (by omega)).trans ((h1.l4 _ (by omega)).trans (by decide)))) ((h3.bl _ (by omega)).trans ((h2.bl _ (by omega)).trans ((h1.l5 _ (by omega)).trans (by decide)))) ((h3.bl _ (by omega)).trans ((h2.bl _ (by omega)).trans ((h1.l6 _ (by omega)).trans (by decide)))) ((h3.bl _ (by omega)).trans ((h2.bl _ (by omega)).trans ((h1.l7 _ (by omega)).trans (by decide)))) ((h3.bl _ (by omega)).trans ((h2.bl _ (by omega)).trans ((h1.l8 _ (by omega)).trans (by decide)))) ((h3.bl _ (by omega)).trans ((h2.bl _ (by omega)).trans ((h1.l9 _ (by omega)).trans (by decide)))) ((h3.bl _ (by omega)).trans ((h2.bl _ (by omega)).trans ((h1.l10 _ (by omega)).trans (by decide)))) ((h3.bl _ (by omega)).trans ((h2.bl _ (by omega)).trans ((h1.l11 _ (by omega)).trans (by decide)))) ((h3.bl _ (by omega)).trans ((h2.bl _ (by omega)).trans ((h1.l12 _ (by omega)).trans (by decide)))) ((h3.bl _ (by omega)).trans ((h2.bl _ (by omega)).trans ((h1.l13 _ (by omega)).trans (by decide)))) ((h3.bl _ (by omega)).trans ((h2.bl _ (by omega)).trans ((h1.l14 _ (by omega)).trans (by decide)))) ((h3.bl _ (by omega)).trans ((h2.bl _ (by omega)).trans ((h1.l15 _ (by omega)).trans (by decide)))) ((h3.bl _ (by omega)).trans ((h2.bl _ (by omega)).trans ((h1.l16 _ (by omega)).trans (by decide)))) ((h3.bl _ (by omega)).trans ((h2.bl _ (by omega)).trans ((h1.l17 _ (by omega)).trans (by decide)))) ((h3.bl _ (by omega)).trans ((h2.bl _ (by omega)).trans ((h1.l18 _ (by omega)).trans (by decide)))) ((h3.bl _ (by omega)).trans ((h2.bl _ (by omega)).trans ((h1.l19 _ (by omega)).trans (by decide))))
  have L20 := coLay_of (l := l) (a := o + 20) ((h3.bl _ (by omega)).trans ((h2.bl _ (by omega)).trans ((h1.l20 _ (by omega)).trans (by decide)))) ((h3.bl _ (by omega)).trans ((h2.bl _ (by omega)).trans ((h1.l21 _ (by omega)).trans (by decide)))) ((h3.bl _ (by omega)).trans ((h2.bl _ (by omega)).trans ((h1.l22 _ (by omega)).trans (by decide)))) ((h3.bl _ (by omega)).trans ((h2.bl _ (by omega)).trans ((h1.l23 _ (by omega)).trans (by decide)))) ((h3.bl _ (by omega)).trans ((h2.bl _ (by omega)).trans ((h1.l24 _ (by omega)).trans (by decide)))) ((h3.bl _ (by omega)).trans ((h2.bl _ (by omega)).trans ((h1.l25 _ (by omega)).trans (by decide)))) ((h3.bl _ (by omega)).trans ((h2.bl _ (by omega)).trans ((h1.l26 _ (by omega)).trans (by decide)))) ((h3.bl _ (by omega)).trans ((h2.bl _ (by omega)).trans ((h1.l27 _ (by omega)).trans (by decide)))) ((h3.bl _ (by omega)).trans ((h2.bl _ (by omega)).trans ((h1.l28 _ (by omega)).trans (by decide)))) ((h3.bl _ (by omega)).trans ((h2.bl _ (by omega)).trans ((h1.l29 _ (by omega)).trans (by decide)))) ((h3.bl _ (by omega)).trans ((h2.bl _ (by omega)).trans ((h1.l30 _ (by omega)).trans (by decide)))) ((h3.bl _ (by omega)).trans ((h2.bl _ (by omega)).trans ((h1.l31 _ (by omega)).trans (by decide)))) ((h3.bl _ (by omega)).trans ((h2.bl _ (by omega)).trans ((h1.l32 _ (by omega)).trans (by decide)))) ((h3.bl _ (by omega)).trans ((h2.bl _ (by omega)).trans ((h1.l33 _ (by omega)).trans (by decide)))) ((h3.bl _ (by omega)).trans ((h2.bl _ (by omega)).trans ((h1.l34 _ (by omega)).trans (by decide)))) ((h3.bl _ (by omega)).trans ((h2.bl _ (by omega)).trans ((h1.l35 _ (by omega)).trans (by decide)))) ((h3.bl _ (by omega)).trans ((h2.bl _ (by omega)).trans ((h1.l36 _ (by omega)).trans (by decide)))) ((h3.bl _ (by omega)).trans ((h2.bl _ (by omega)).trans ((h1.l37 _ (by omega)).trans (by decide))))
  have L38 := coLay_of (l := l) (a := o + 38) ((h3.bl _ (by omega)).trans ((h2.bl _ (by omega)).trans ((h1.l38 _ (by omega)).trans (by decide)))) ((h3.bl _ (by omega)).trans ((h2.bl _ (by omega)).trans ((h1.l39 _ (by omega)).trans (by decide)))) ((h3.bl _ (by omega)).trans ((h2.bl _ (by omega)).trans ((h1.l40 _ (by omega)).trans (by decide)))) ((h3.bl _ (by omega)).trans ((h2.bl _ (by omega)).trans ((h1.l41 _ (by omega)).trans (by decide)))) ((h3.bl _ (by omega)).trans ((h2.bl _ (by omega)).trans ((h1.l42 _ (by omega)).trans (by decide)))) ((h3.bl _ (by omega)).trans ((h2.bl _ (by omega)).trans ((h1.l43 _ (by omega)).trans (by decide)))) ((h3.bl _ (by omega)).trans ((h2.bl _ (by omega)).trans ((h1.l44 _ (by omega)).trans (by decide)))) ((h3.bl _ (by omega)).trans ((h2.bl _ (by omega)).trans ((h1.l45 _ (by omega)).trans (by decide)))) ((h3.bl _ (by omega)).trans ((h2.bl _ (by omega)).trans ((h1.l46 _ (by omega)).trans (by decide)))) ((h3.bl _ (by omega)).trans ((h2.bl _ (by omega)).trans ((h1.l47 _ (by omega)).trans (by decide)))) ((h3.bl _ (by omega)).trans ((h2.bl _ (by omega)).trans ((h1.l48 _ (by omega)).trans (by decide)))) ((h3.bl _ (by omega)).trans ((h2.bl _ (by omega)).trans ((h1.l49 _ (by omega)).trans (by decide)))) ((h3.bl _ (by omega)).trans ((h2.bl _ (by omega)).trans ((h1.l50 _ (by omega)).trans (by decide)))) ((h3.bl _ (by omega)).trans ((h2.bl _ (by omega)).trans ((h1.l51 _ (by omega)).trans (by decide)))) ((h3.bl _ (by omega)).trans ((h2.bl _ (by omega)).trans ((h1.l52 _ (by omega)).trans (by decide)))) ((h3.bl _ (by omega)).trans ((h2.bl _ (by omega)).trans ((h1.l53 _ (by omega)).trans (by decide)))) ((h3.bl _ (by omega)).trans ((h2.bl _ (by omega)).trans ((h1.l54 _ (by omega)).trans (by decide)))) ((h3.bl _ (by omega)).trans ((h2.bl _ (by omega)).trans ((h1.l55 _ (by omega)).trans (by decide))))
  have L276 := coLay_of (l := l) (a := o + 276) ((h3.l276 _ (by omega)).trans (by decide)) ((h3.l277 _ (by omega)).trans (by decide)) ((h3.l278 _ (by omega)).trans (by decide)) ((h3.l279 _ (by omega)).trans (by decide)) ((h3.l280 _ (by omega)).trans (by decide)) ((h3.l281 _ (by omega)).trans (by decide)) ((h3.l282 _ (by omega)).trans (by decide)) ((h3.l283 _ (by omega)).trans (by decide)) ((h3.l284 _ (by omega)).trans (by decide)) ((h3.l285 _ (by omega)).trans (by decide)) ((h3.l286 _ (by omega)).trans (by decide)) ((h3.l287 _ (by omega)).trans (by decide)) ((h3.l288 _ (by omega)).trans (by decide)) ((h3.l289 _ (by omega)).trans (by decide)) ((h3.l290 _ (by omega)).trans (by decide)) ((h3.l291 _ (by omega)).trans (by decide)) ((h3.l292 _ (by omega)).trans (by decide)) ((h3.l293 _ (by omega)).trans (by decide))
  refine ⟨h0, fun i hi => ?_⟩
  unfold layT
  unfold inT at hi
  cases hb : coB i with
  | some b =>
    dsimp only
    unfold coB at hb
    split at hb
    · have e := Option.some.inj hb
      have e3 : b = 2 ∨ b = 20 ∨ b = 38 := by omega
      rcases e3 with e3 | e3 | e3
      · rw [← L2 (i - b) (by omega) (by omega)]; congr 1; omega
      · rw [← L20 (i - b) (by omega) (by omega)]; congr 1; omega
      · rw [← L38 (i - b) (by omega) (by omega)]; congr 1; omega
    split at hb
    · have e := Option.some.inj hb
      rw [← h2.ll ((i - 57) / 18) (i - b) (by omega) (by omega) (by omega) (by omega)]
      refine (congrArg l (show o + i = o + 57 + 18 * ((i - 57) / 18) + (i - b) by omega)).trans (h3.bl _ (by omega))
    split at hb
    · have e := Option.some.inj hb
      rw [← L276 (i - b) (by omega) (by omega)]; congr 1; omega
    · cases hb
  | none =>
    dsimp only
    unfold coB at hb
    split at hb
    · cases hb
    split at hb
    · cases hb
    split at hb
    · cases hb
    have e : i = 0 ∨ i = 1 ∨ i = 56 ∨ i = 273 ∨ i = 274 ∨ i = 275 ∨ i = 294 ∨ i = 295 ∨ i = 296 ∨ i = 303 ∨ i = 304 ∨ i = 305 ∨ i = 306 ∨ i = 307 ∨ i = 308 ∨ i = 309 ∨ i = 310 ∨ i = 311 ∨ i = 312 := by omega
    rcases e with e | e | e | e | e | e | e | e | e | e | e | e | e | e | e | e | e | e | e <;> subst e
    · exact (h3.bl _ (by omega)).trans ((h2.bl _ (by omega)).trans ((h1.l0 _ (by omega)).trans (by decide)))
    · exact (h3.bl _ (by omega)).trans ((h2.bl _ (by omega)).trans ((h1.l1 _ (by omega)).trans (by decide)))
    · exact (h3.bl _ (by omega)).trans ((h2.bl _ (by omega)).trans ((h1.l56 _ (by omega)).trans (by decide)))
    · exact (h3.l273 _ (by omega)).trans (by decide)
    · exact (h3.l274 _ (by omega)).trans (by decide)
    · exact (h3.l275 _ (by omega)).trans (by decide)
    · exact (h3.l294 _ (by omega)).trans (by decide)
    · exact (h3.l295 _ (by omega)).trans (by decide)
    · exact (h3.l296 _ (by omega)).trans (by decide)
    · exact (h3.l303 _ (by omega)).trans (by decide)
    · exact (h3.l304 _ (by omega)).trans (by decide)
    · exact (h3.l305 _ (by omega)).trans (by decide)
    · exact (h3.l306 _ (by omega)).trans (by decide)
    · exact (h3.l307 _ (by omega)).trans (by decide)
    · exact (h3.l308 _ (by omega)).trans (by decide)
    · exact (h3.l309 _ (by omega)).trans (by decide)
    · exact (h3.l310 _ (by omega)).trans (by decide)
    · exact (h3.l311 _ (by omega)).trans (by decide)
    · exact (h3.l312 _ (by omega)).trans (by decide)
theorem Nw_ref {lay l1 l2 l : zLay} {C c1 c2 c : zMem} {o : Int} (h1 : NwX11a lay l1 C c1 o) (h2 : Md 12 l1 l2 c1 c2 o) (h3 : NwX11b l2 l c2 c o) (h0 : 0 ≤ o) : ∀ i j t, inT i → rfT i j = some t → c (o + i) j = o + t := by
  have R2 := coRf_of (c := c) (a := o + 2) ((congrFun (h3.bc _ (by omega) (by omega)) _).trans ((congrFun (h2.bc _ (by omega) (by omega)) _).trans ((h1.r2_2 _ (by omega)).trans (by omega)))) ((congrFun (h3.bc _ (by omega) (by omega)) _).trans ((congrFun (h2.bc _ (by omega) (by omega)) _).trans ((h1.r2_3 _ (by omega)).trans (by omega)))) ((congrFun (h3.bc _ (by omega) (by omega)) _).trans ((congrFun (h2.bc _ (by omega) (by omega)) _).trans ((h1.r2_6 _ (by omega)).trans (by omega)))) ((congrFun (h3.bc _ (by omega) (by omega)) _).trans ((congrFun (h2.bc _ (by omega) (by omega)) _).trans ((h1.r2_11 _ (by omega)).trans (by omega)))) ((congrFun (h3.bc _ (by omega) (by omega)) _).trans ((congrFun (h2.bc _ (by omega) (by omega)) _).trans ((h1.r2_12 _ (by omega)).trans (by omega)))) ((congrFun (h3.bc _ (by omega) (by omega)) _).trans ((congrFun (h2.bc _ (by omega) (by omega)) _).trans ((h1.r2_13 _ (by omega)).trans (by omega)))) ((congrFun (h3.bc _ (by omega) (by omega)) _).trans ((congrFun (h2.bc _ (by omega) (by omega)) _).trans ((h1.r2_14 _ (by omega)).trans (by omega)))) ((congrFun (h3.bc _ (by omega) (by omega)) _).trans ((congrFun (h2.bc _ (by omega) (by omega)) _).trans ((h1.r6_4 _ (by omega)).trans (by omega)))) ((congrFun (h3.bc _ (by omega) (by omega)) _).trans ((congrFun (h2.bc _ (by omega) (by omega)) _).trans ((h1.r6_5 _ (by omega)).trans (by omega)))) ((congrFun (h3.bc _ (by omega) (by omega)) _).trans ((congrFun (h2.bc _ (by omega) (by omega)) _).trans ((h1.r6_6 _ (by omega)).trans (by omega)))) ((congrFun (h3.bc _ (by omega) (by omega)) _).trans ((congrFun (h2.bc _ (by omega) (by omega)) _).trans ((h1.r10_1 _ (by omega)).trans (by omega)))) ((congrFun (h3.bc _ (by omega) (by omega)) _).trans ((congrFun (h2.bc _ (by omega) (by omega)) _).trans ((h1.r10_2 _ (by omega)).trans (by omega)))) ((congrFun (h3.bc _ (by omega) (by omega)) _).trans ((congrFun (h2.bc _ (by omega) (by omega)) _).trans ((h1.r10_3 _ (by omega)).trans (by omega)))) ((congrFun (h3.bc _ (by omega) (by omega)) _).trans ((congrFun (h2.bc _ (by omega) (by omega)) _).trans ((h1.r10_4 _ (by omega)).trans (by omega)))) ((congrFun (h3.bc _ (by omega) (by omega)) _).trans ((congrFun (h2.bc _ (by omega) (by omega)) _).trans ((h1.r10_5 _ (by omega)).trans (by omega)))) ((congrFun (h3.bc _ (by omega) (by omega)) _).trans ((congrFun (h2.bc _ (by omega) (by omega)) _).trans ((h1.r10_6 _ (by omega)).trans (by omega)))) ((congrFun (h3.bc _ (by omega) (by omega)) _).trans ((congrFun (h2.bc _ (by omega) (by omega)) _).trans ((h1.r17_1 _ (by omega)).trans (by omega))))
  have R20 := coRf_of (c := c) (a := o + 20) ((congrFun (h3.bc _ (by omega) (by omega)) _).trans ((congrFun (h2.bc _ (by omega) (by omega)) _).trans ((h1.r20_2 _ (by omega)).trans (by omega)))) ((congrFun (h3.bc _ (by omega) (by omega)) _).trans ((congrFun (h2.bc _ (by omega) (by omega)) _).trans ((h1.r20_3 _ (by omega)).trans (by omega)))) ((congrFun (h3.bc _ (by omega) (by omega)) _).trans ((congrFun (h2.bc _ (by omega) (by omega)) _).trans ((h1.r20_6 _ (by omega)).trans (by omega)))) ((congrFun (h3.bc _ (by omega) (by omega)) _).trans ((congrFun (h2.bc _ (by omega) (by omega)) _).trans ((h1.r20_11 _ (by omega)).trans (by omega)))) ((congrFun (h3.bc _ (by omega) (by omega)) _).trans ((congrFun (h2.bc _ (by omega) (by omega)) _).trans ((h1.r20_12 _ (by omega)).trans (by omega)))) ((congrFun (h3.bc _ (by omega) (by omega)) _).trans ((congrFun (h2.bc _ (by omega) (by omega)) _).trans ((h1.r20_13 _ (by omega)).trans (by omega)))) ((congrFun (h3.bc _ (by omega) (by omega)) _).trans ((congrFun (h2.bc _ (by omega) (by omega)) _).trans ((h1.r20_14 _ (by omega)).trans (by omega)))) ((congrFun (h3.bc _ (by omega) (by omega)) _).trans ((congrFun (h2.bc _ (by omega) (by omega)) _).trans ((h1.r24_4 _ (by omega)).trans (by omega)))) ((congrFun (h3.bc _ (by omega) (by omega)) _).trans ((congrFun (h2.bc _ (by omega) (by omega)) _).trans ((h1.r24_5 _ (by omega)).trans (by omega)))) ((congrFun (h3.bc _ (by omega) (by omega)) _).trans ((congrFun (h2.bc _ (by omega) (by omega)) _).trans ((h1.r24_6 _ (by omega)).trans (by omega)))) ((congrFun (h3.bc _ (by omega) (by omega)) _).trans ((congrFun (h2.bc _ (by omega) (by omega)) _).trans ((h1.r28_1 _ (by omega)).trans (by omega)))) ((congrFun (h3.bc _ (by omega) (by omega)) _).trans ((congrFun (h2.bc _ (by omega) (by omega)) _).trans ((h1.r28_2 _ (by omega)).trans (by omega)))) ((congrFun (h3.bc _ (by omega) (by omega)) _).trans ((congrFun (h2.bc _ (by omega) (by omega)) _).trans ((h1.r28_3 _ (by omega)).trans (by omega)))) ((congrFun (h3.bc _ (by omega) (by omega)) _).trans ((congrFun (h2.bc _ (by omega) (by omega)) _).trans ((h1.r28_4 _ (by omega)).trans (by omega)))) ((congrFun (h3.bc _ (by omega) (by omega)) _).trans ((congrFun (h2.bc _ (by omega) (by omega)) _).trans ((h1.r28_5 _ (by omega)).trans (by omega)))) ((congrFun (h3.bc _ (by omega) (by omega)) _).trans ((congrFun (h2.bc _ (by omega) (by omega)) _).trans ((h1.r28_6 _ (by omega)).trans (by omega)))) ((congrFun (h3.bc _ (by omega) (by omega)) _).trans ((congrFun (h2.bc _ (by omega) (by omega)) _).trans ((h1.r35_1 _ (by omega)).trans (by omega))))
  have R38 := coRf_of (c := c) (a := o + 38) ((congrFun (h3.bc _ (by omega) (by omega)) _).trans ((congrFun (h2.bc _ (by omega) (by omega)) _).trans ((h1.r38_2 _ (by omega)).trans (by omega)))) ((congrFun (h3.bc _ (by omega) (by omega)) _).trans ((congrFun (h2.bc _ (by omega) (by omega)) _).trans ((h1.r38_3 _ (by omega)).trans (by omega)))) ((congrFun (h3.bc _ (by omega) (by omega)) _).trans ((congrFun (h2.bc _ (by omega) (by omega)) _).trans ((h1.r38_6 _ (by omega)).trans (by omega)))) ((congrFun (h3.bc _ (by omega) (by omega)) _).trans ((congrFun (h2.bc _ (by omega) (by omega)) _).trans ((h1.r38_11 _ (by omega)).trans (by omega)))) ((congrFun (h3.bc _ (by omega) (by omega)) _).trans ((congrFun (h2.bc _ (by omega) (by omega)) _).trans ((h1.r38_12 _ (by omega)).trans (by omega)))) ((congrFun (h3.bc _ (by omega) (by omega)) _).trans ((congrFun (h2.bc _ (by omega) (by omega)) _).trans ((h1.r38_13 _ (by omega)).trans (by omega)))) ((congrFun (h3.bc _ (by omega) (by omega)) _).trans ((congrFun (h2.bc _ (by omega) (by omega)) _).trans ((h1.r38_14 _ (by omega)).trans (by omega)))) ((congrFun (h3.bc _ (by omega) (by omega)) _).trans ((congrFun (h2.bc _ (by omega) (by omega)) _).trans ((h1.r42_4 _ (by omega)).trans (by omega)))) ((congrFun (h3.bc _ (by omega) (by omega)) _).trans ((congrFun (h2.bc _ (by omega) (by omega)) _).trans ((h1.r42_5 _ (by omega)).trans (by omega)))) ((congrFun (h3.bc _ (by omega) (by omega)) _).trans ((congrFun (h2.bc _ (by omega) (by omega)) _).trans ((h1.r42_6 _ (by omega)).trans (by omega)))) ((congrFun (h3.bc _ (by omega) (by omega)) _).trans ((congrFun (h2.bc _ (by omega) (by omega)) _).trans ((h1.r46_1 _ (by omega)).trans (by omega)))) ((congrFun (h3.bc _ (by omega) (by omega)) _).trans ((congrFun (h2.bc _ (by omega) (by omega)) _).trans ((h1.r46_2 _ (by omega)).trans (by omega)))) ((congrFun (h3.bc _ (by omega) (by omega)) _).trans ((congrFun (h2.bc _ (by omega) (by omega)) _).trans ((h1.r46_3 _ (by omega)).trans (by omega)))) ((congrFun (h3.bc _ (by omega) (by omega)) _).trans ((congrFun (h2.bc _ (by omega) (by omega)) _).trans ((h1.r46_4 _ (by omega)).trans (by omega)))) ((congrFun (h3.bc _ (by omega) (by omega)) _).trans ((congrFun (h2.bc _ (by omega) (by omega)) _).trans ((h1.r46_5 _ (by omega)).trans (by omega)))) ((congrFun (h3.bc _ (by omega) (by omega)) _).trans ((congrFun (h2.bc _ (by omega) (by omega)) _).trans ((h1.r46_6 _ (by omega)).trans (by omega)))) ((congrFun (h3.bc _ (by omega) (by omega)) _).trans ((congrFun (h2.bc _ (by omega) (by omega)) _).trans ((h1.r53_1 _ (by omega)).trans (by omega))))
  have R276 := coRf_of (c := c) (a := o + 276) ((h3.r276_2 _ (by omega)).trans (by omega)) ((h3.r276_3 _ (by omega)).trans (by omega)) ((h3.r276_6 _ (by omega)).trans (by omega)) ((h3.r276_11 _ (by omega)).trans (by omega)) ((h3.r276_12 _ (by omega)).trans (by omega)) ((h3.r276_13 _ (by omega)).trans (by omega)) ((h3.r276_14 _ (by omega)).trans (by omega)) ((h3.r280_4 _ (by omega)).trans (by omega)) ((h3.r280_5 _ (by omega)).trans (by omega)) ((h3.r280_6 _ (by omega)).trans (by omega)) ((h3.r284_1 _ (by omega)).trans (by omega)) ((h3.r284_2 _ (by omega)).trans (by omega)) ((h3.r284_3 _ (by omega)).trans (by omega)) ((h3.r284_4 _ (by omega)).trans (by omega)) ((h3.r284_5 _ (by omega)).trans (by omega)) ((h3.r284_6 _ (by omega)).trans (by omega)) ((h3.r291_1 _ (by omega)).trans (by omega))
  intro i j t hi ht
  unfold rfT at ht
  unfold inT at hi
  cases hb : coB i with
  | some b =>
    rw [hb] at ht
    dsimp only at ht
    obtain ⟨t', ht1, ht2⟩ := Option.map_eq_some_iff.mp ht
    unfold coB at hb
    split at hb
    · have e := Option.some.inj hb
      have e3 : b = 2 ∨ b = 20 ∨ b = 38 := by omega
      rcases e3 with e3 | e3 | e3
      · have h := R2 (i - b) j t' ht1
        rw [show o + 2 + (i - b) = o + i by omega] at h
        omega
      · have h := R20 (i - b) j t' ht1
        rw [show o + 20 + (i - b) = o + i by omega] at h
        omega
      · have h := R38 (i - b) j t' ht1
        rw [show o + 38 + (i - b) = o + i by omega] at h
        omega
    split at hb
    · have e := Option.some.inj hb
      have h := h2.rr ((i - 57) / 18) (i - b) j t' (by omega) (by omega) (by omega) (by omega) ht1
      rw [show o + 57 + 18 * ((i - 57) / 18) + (i - b) = o + i by omega] at h
      rw [h3.bc _ (by omega) (by omega), h]
      omega
    split at hb
    · have e := Option.some.inj hb
      have h := R276 (i - b) j t' ht1
      rw [show o + 276 + (i - b) = o + i by omega] at h
      omega
    · cases hb
  | none =>
    rw [hb] at ht
    dsimp only at ht
    split at ht
    · rename_i e
      subst e
      split at ht
      · rename_i e; subst e; cases ht; exact (h3.d0 _ (by omega)).trans ((congrArg (fun p => c2 p 0) (show o + 0 = o by omega)).trans ((congrFun (h2.bc _ (by omega) (by omega)) _).trans (h1.r0_0 _ (by omega))))
      split at ht
      · rename_i e; subst e; cases ht; exact (h3.d3 _ (by omega)).trans ((congrArg (fun p => c2 p 3) (show o + 0 = o by omega)).trans ((congrFun (h2.bc _ (by omega) (by omega)) _).trans (h1.r0_3 _ (by omega))))
      split at ht
      · rename_i e; subst e; cases ht; exact (h3.d4 _ (by omega)).trans ((congrArg (fun p => c2 p 4) (show o + 0 = o by omega)).trans ((congrFun (h2.bc _ (by omega) (by omega)) _).trans (h1.r0_4 _ (by omega))))
      split at ht
      · rename_i e; subst e; cases ht; exact (h3.d5 _ (by omega)).trans ((congrArg (fun p => c2 p 5) (show o + 0 = o by omega)).trans ((congrFun (h2.bc _ (by omega) (by omega)) _).trans (h1.r0_5 _ (by omega))))
      split at ht
      · rename_i e; subst e; cases ht; exact (h3.d7 _ (by omega)).trans ((congrArg (fun p => c2 p 7) (show o + 0 = o by omega)).trans ((congrFun (h2.bc _ (by omega) (by omega)) _).trans (h1.r0_7 _ (by omega))))
      split at ht
      · rename_i e; subst e; cases ht; exact (h3.r0_10 _ (by omega))
      split at ht
      · rename_i e; subst e; cases ht; exact (h3.r0_11 _ (by omega))
      split at ht
      · rename_i e; subst e; cases ht; exact (h3.r0_12 _ (by omega))
      split at ht
      · rename_i e; subst e; cases ht; exact (h3.r0_13 _ (by omega))
      split at ht
      · rename_i e; subst e; cases ht; exact (h3.r0_14 _ (by omega))
      · cases ht
    split at ht
    · rename_i e
      subst e
      split at ht
      · rename_i e; cases ht; rw [h3.bc _ (by omega) (by omega), h2.pa j e.1 e.2]; omega
      · cases ht
    split at ht
    · rename_i e
      subst e
      split at ht
      · rename_i e; subst e; cases ht; exact h3.r273_0 _ rfl
      split at ht
      · rename_i e; subst e; cases ht; exact h3.r273_1 _ rfl
      · cases ht
    split at ht
    · rename_i e
      subst e
      split at ht
      · rename_i e; subst e; cases ht; exact h3.r294_0 _ rfl
      · cases ht
    split at ht
    · rename_i e
      subst e
      split at ht
      · rename_i e; subst e; cases ht; exact h3.r303_0 _ rfl
      split at ht
      · rename_i e; subst e; cases ht; exact h3.r303_1 _ rfl
      split at ht
      · rename_i e; subst e; cases ht; exact h3.r303_2 _ rfl
      · cases ht
    split at ht
    · rename_i e
      subst e
      split at ht
      · rename_i e; subst e; cases ht; exact h3.r307_1 _ rfl
      split at ht
      · rename_i e; subst e; cases ht; exact h3.r307_3 _ rfl
      · cases ht
    split at ht
    · rename_i e
      subst e
      split at ht
      · rename_i e; subst e; cases ht; exact h3.r310_0 _ rfl
      split at ht
      · rename_i e; subst e; cases ht; exact h3.r310_1 _ rfl
      · cases ht
    · cases ht
def Nv (c : zMem) (o : Int) : Prop := (c o 1 = 0) ∧ (c o 2 = -1) ∧ (c o 6 = 0) ∧ (c o 8 = 0) ∧ (c o 9 = 0) ∧ (∀ j, c (o + 1) j = 0) ∧ (c (o + 2) 10 = -1) ∧ (CoN (fun i j => c (o + i) j) 2 qM0)
theorem Nv.s1 {c : zMem} {o : Int} (h : Nv c o) : c o 1 = 0 := h.1
theorem Nv.s2 {c : zMem} {o : Int} (h : Nv c o) : c o 2 = -1 := h.2.1
theorem Nv.s6 {c : zMem} {o : Int} (h : Nv c o) : c o 6 = 0 := h.2.2.1
theorem Nv.s8 {c : zMem} {o : Int} (h : Nv c o) : c o 8 = 0 := h.2.2.2.1
theorem Nv.s9 {c : zMem} {o : Int} (h : Nv c o) : c o 9 = 0 := h.2.2.2.2.1
theorem Nv.tp {c : zMem} {o : Int} (h : Nv c o) : ∀ j, c (o + 1) j = 0 := h.2.2.2.2.2.1
theorem Nv.lw {c : zMem} {o : Int} (h : Nv c o) : c (o + 2) 10 = -1 := h.2.2.2.2.2.2.1
theorem Nv.co {c : zMem} {o : Int} (h : Nv c o) : CoN (fun i j => c (o + i) j) 2 qM0 := h.2.2.2.2.2.2.2
theorem qM0_r {m n v : Int} (h : ∀ j, m ≤ j → j < n → qM0 j = v) {j : Int} (h0 : m ≤ j) (h1 : j < n) : qM0 j = v := h j h0 h1
theorem qM0_1 {j : Int} (h : 13 ≤ j ∧ j < 38) : qM0 j = 1 := by unfold qM0; rw [if_neg (by omega), if_neg (by omega), if_pos h]
theorem qM0_5 {j : Int} (h : 38 ≤ j ∧ j < 46) : qM0 j = 5 := by unfold qM0; rw [if_neg (by omega), if_pos h]
theorem qM0_n {j : Int} (h : 114 ≤ j ∧ j < 126) : qM0 j = -1 := by unfold qM0; rw [if_pos h]
theorem qM0_0 {j : Int} (h : (46 ≤ j ∧ j < 114) ∨ 126 ≤ j) : qM0 j = 0 := by unfold qM0 qM00; rw [if_neg (by omega), if_neg (by omega), if_neg (by omega), if_neg (by omega), if_neg (by omega), if_neg (by omega)]
theorem Nw_val {lay l1 l2 l : zLay} {C c1 c2 c : zMem} {o : Int} (h1 : NwX11a lay l1 C c1 o) (h2 : Md 12 l1 l2 c1 c2 o) (h3 : NwX11b l2 l c2 c o) (hC : C o 1 = 0 ∧ C o 6 = 0 ∧ C o 8 = 0 ∧ C o 9 = 0)
    : Nv c o := by
  have m3 : qM0 3 = 0 := by decide
  have m4 : qM0 4 = 0 := by decide
  have m11 : qM0 11 = 0 := by decide
  refine ⟨(h3.d1 _ (by omega)).trans ((congrFun (h2.bc _ (by omega) (by omega)) _).trans ((h1.d1 _ rfl).trans hC.1)), (h3.d2 _ (by omega)).trans ((congrFun (h2.bc _ (by omega) (by omega)) _).trans (h1.v0_2 _ (by omega))), (h3.d6 _ (by omega)).trans ((congrFun (h2.bc _ (by omega) (by omega)) _).trans ((h1.d6 _ rfl).trans hC.2.1)), (h3.d8 _ (by omega)).trans ((congrFun (h2.bc _ (by omega) (by omega)) _).trans ((h1.d8 _ rfl).trans hC.2.2.1)), (h3.d9 _ (by omega)).trans ((congrFun (h2.bc _ (by omega) (by omega)) _).trans ((h1.d9 _ rfl).trans hC.2.2.2)), fun j => (congrFun (h3.bc _ (by omega) (by omega)) _).trans ((congrFun (h2.bc _ (by omega) (by omega)) _).trans (h1.y1 _ j rfl)), (congrFun (h3.bc _ (by omega) (by omega)) _).trans ((congrFun (h2.bc _ (by omega) (by omega)) _).trans (h1.v2_10 _ rfl)), ?_⟩
  refine ⟨?_, ?_, fun p p0 p1 => by omega, fun p p0 p1 => by omega, fun k k0 k1 => ?_, ?_, ?_, ?_, ?_, ?_, ⟨⟨?_, ?_, ?_, ?_⟩, fun t t0 t1 => ?_⟩, ⟨?_, fun k k0 k1 => by omega, fun h g0 g1 => ?_⟩, ⟨?_, fun a w a0 a1 => by omega⟩⟩
  · exact (congrFun (h3.bc _ (by omega) (by omega)) _).trans ((congrFun (h2.bc _ (by omega) (by omega)) _).trans ((h1.v2_0 _ (by omega)).trans (by decide)))
  · exact (congrFun (h3.bc _ (by omega) (by omega)) _).trans ((congrFun (h2.bc _ (by omega) (by omega)) _).trans ((h1.v2_1 _ (by omega)).trans (by decide)))
  · rw [qM0_5 (by omega)]; exact (congrFun (h3.bc _ (by omega) (by omega)) _).trans ((congrFun (h2.bc _ (by omega) (by omega)) _).trans (h1.a5 _ k (by omega) k0 (by omega)))
  · exact (congrFun (h3.bc _ (by omega) (by omega)) _).trans ((congrFun (h2.bc _ (by omega) (by omega)) _).trans ((h1.v2_4 _ (by omega)).trans (by decide)))
  · exact (congrFun (h3.bc _ (by omega) (by omega)) _).trans ((congrFun (h2.bc _ (by omega) (by omega)) _).trans ((h1.v2_5 _ (by omega)).trans (by decide)))
  · exact (congrFun (h3.bc _ (by omega) (by omega)) _).trans ((congrFun (h2.bc _ (by omega) (by omega)) _).trans ((h1.v2_7 _ (by omega)).trans (by decide)))
  · exact (congrFun (h3.bc _ (by omega) (by omega)) _).trans ((congrFun (h2.bc _ (by omega) (by omega)) _).trans ((h1.v2_8 _ (by omega)).trans (by decide)))
  · exact (congrFun (h3.bc _ (by omega) (by omega)) _).trans ((congrFun (h2.bc _ (by omega) (by omega)) _).trans ((h1.v2_9 _ (by omega)).trans (by decide)))
  · exact (congrFun (h3.bc _ (by omega) (by omega)) _).trans ((congrFun (h2.bc _ (by omega) (by omega)) _).trans ((h1.v6_0 _ (by omega)).trans (by decide)))
  · exact (congrFun (h3.bc _ (by omega) (by omega)) _).trans ((congrFun (h2.bc _ (by omega) (by omega)) _).trans ((h1.v6_1 _ (by omega)).trans (by decide)))
  · exact (congrFun (h3.bc _ (by omega) (by omega)) _).trans ((congrFun (h2.bc _ (by omega) (by omega)) _).trans ((h1.v6_2 _ (by omega)).trans (by decide)))
  · exact (congrFun (h3.bc _ (by omega) (by omega)) _).trans ((congrFun (h2.bc _ (by omega) (by omega)) _).trans ((h1.v6_3 _ (by omega)).trans (by decide)))
  · rw [qM0_1 (by omega)]; exact (congrFun (h3.bc _ (by omega) (by omega)) _).trans ((congrFun (h2.bc _ (by omega) (by omega)) _).trans (h1.a7 _ t (by omega) t0 (by omega)))
  · exact (congrFun (h3.bc _ (by omega) (by omega)) _).trans ((congrFun (h2.bc _ (by omega) (by omega)) _).trans ((h1.v10_0 _ (by omega)).trans (by decide)))
  · rw [qM0_n (by omega)]; exact (congrFun (h3.bc _ (by omega) (by omega)) _).trans ((congrFun (h2.bc _ (by omega) (by omega)) _).trans (h1.a16 _ h (by omega) g0 (by omega)))
  · exact (congrFun (h3.bc _ (by omega) (by omega)) _).trans ((congrFun (h2.bc _ (by omega) (by omega)) _).trans ((h1.v17_0 _ (by omega)).trans (by decide)))
