/-! The sum of the lines of a kind. -/
def qStart (C : zMem) (p i : Int) : Int := if i = 0 then 0 else C (p + 3) (i - 1)
def LwB (C : zMem) (p n : Int) : Prop := (0 ≤ C p 0 ∧ C p 0 ≤ 12) ∧ ∀ i, 0 ≤ i → i < C p 0 → (0 ≤ C (p + 1) i ∧ C (p + 1) i ≤ 2) ∧ (0 ≤ C (p + 2) i ∧ C (p + 2) i ≤ 20) ∧ (0 ≤ qStart C p i ∧ qStart C p i ≤ C (p + 3) i ∧ C (p + 3) i ≤ n)
def LwRun (C : zMem) (p : Int) (F V : Int → Int) : Prop := ∀ i, 0 ≤ i → i < C p 0 → ∀ S, ∃ r', qRunOK F (C (p + 4)) (C (p + 3) i - qStart C p i).toNat (qStart C p i) (0, S) r' ∧ (0 ≤ r'.1 ∧ r'.1 ≤ 24) ∧ (r'.1 = 0 ∨ zin (r'.2 0)) ∧ zbi (qHolds r') = V i
def qSumL (C : zMem) (p k : Int) (V : Int → Int) (n : Int) : Int := zsum (fun i => if C (p + 1) i = k ∧ V i = 1 then C (p + 2) i else 0) n
/-- two memories with the same law at p, but for its stack -/
def zSame (C0 : zMem) (p : Int) (C : zMem) : Prop := C p = C0 p ∧ C (p + 1) = C0 (p + 1) ∧ C (p + 2) = C0 (p + 2) ∧ C (p + 3) = C0 (p + 3) ∧ C (p + 4) = C0 (p + 4)
theorem zStk.same {C0 C : zMem} {p : Int} (h : zStk C0 p C) : zSame C0 p C := ⟨h _ (by omega), h _ (by omega), h _ (by omega), h _ (by omega), h _ (by omega)⟩
theorem LwB.cg {C C' : zMem} {p n : Int} (h : LwB C p n) (e : zSame C p C') : LwB C' p n := by
  unfold LwB qStart
  rw [e.1, e.2.1, e.2.2.1, e.2.2.2.1]
  exact h
theorem LwRun.cg {C C' : zMem} {p : Int} {F V : Int → Int} (h : LwRun C p F V) (e : zSame C p C') : LwRun C' p F V := by
  unfold LwRun qStart
  rw [e.1, e.2.2.2.1, e.2.2.2.2]
  exact h
theorem qSumL_cg {C C' : zMem} {p k : Int} {V : Int → Int} {n : Int} (e : zSame C p C') : qSumL C' p k V n = qSumL C p k V n := by
  unfold qSumL
  rw [e.2.1, e.2.2.1]
theorem qSumL_bd {C : zMem} {p n k : Int} {V : Int → Int} (hB : LwB C p n) {m : Int} (hm : 0 ≤ m ∧ m ≤ C p 0) : 0 ≤ qSumL C p k V m ∧ qSumL C p k V m ≤ 20 * m := zsum_bnd hm.1 (fun t t0 t1 => by
  have := hB.2 t t0 (by omega)
  split <;> omega)
theorem c_X3_sumOf {G : zG} {lay : zLay} {σ C0 : zMem} {nx x b : Int} (hT : TopL lay x) {p n k : Int} {V : Int → Int} (hA : CoAt b) (hL : LwA lay x p n) (hF : LwF C0 p) (hB : LwB C0 p n) (hV : LwRun C0 p (σ (b + 17)) V) (hk : zin k) : zMM G 3 KX3_sumOf [zP p, zI k, zP (x + (b + 17))] lay (tC x σ C0) nx (0, 0) (zY' (some (zI (qSumL C0 p k V (C0 p 0)))) (fun s C => s = σ ∧ zStk C0 p C) lay nx x) := by
  refine z_met' (L := [zP p, zI k, zP (x + (b + 17)), zU, zU]) gX3_sumOf.1 rfl rfl (Nat.le_of_ble_eq_true rfl) rfl ?_
  have hx := hT.1
  have hp := hL.p0
  have hnn := hL.nn
  have hb0 := hA.b0 (by decide)
  have hne : p ≠ -1 := by omega
  unfold zin at hk
  have hB0 := hB.1
  have hl : ∀ t : Int, 0 ≤ t → t ≤ C0 p 0 → ∀ C : zMem, zStk C0 p C → zW G KX3_sumOf 3 (zY' (some (zI (qSumL C0 p k V (C0 p 0)))) (fun s C => s = σ ∧ zStk C0 p C) lay nx x) 5 [zP p, zI k, zP (x + (b + 17)), zI (qSumL C0 p k V t), zI t] [] lay (tC x σ C) nx (0, 0) := by
    refine z_up (C0 p 0) ?_ ?_
    · intro C hC
      have hF : LwF C p := hF.cg (hC p (by omega))
      refine z_il4 eX3_sumOf_5 ?_
      refine z_al0 eX3_sumOf_7 hne ?_
      refine z_og (j := 0) lX3_29 eX3_sumOf_8 rfl hL.n0 hL.l0 rfl ?_
      rw [hC p (by omega)]
      refine z_icmp_ge (tgt := 74) eX3_sumOf_11 rfl ⟨⟨by omega, by omega⟩, ⟨by omega, by omega⟩⟩ (fun h11 => ?_) (fun h11 => (by exfalso; omega))
      refine z_il3 eX3_sumOf_74 ?_
      refine z_ireturn eX3_sumOf_75 rfl ?_
      exact zYe ⟨rfl, hC⟩ rfl
    · intro t t0 t1 ih C hC
      have hF : LwF C p := hF.cg (hC p (by omega))
      have e1 := hC.same
      obtain ⟨b1, b2, b3⟩ := hB.2 t t0 t1
      obtain ⟨r', a1, a2, a3, a4⟩ := hV t t0 t1 (C (p + 5))
      have ih' := fun C => ih C
      rw [show qSumL C0 p k V (t + 1) = qSumL C0 p k V t + (if C0 (p + 1) t = k ∧ V t = 1 then C0 (p + 2) t else 0) from zsum_s _ t0] at ih
      rw [← e1.2.2.2.2] at a1
      unfold qStart at a1 b3
      refine z_il4 eX3_sumOf_5 ?_
      refine z_al0 eX3_sumOf_7 hne ?_
      refine z_og (j := 0) lX3_29 eX3_sumOf_8 rfl hL.n0 hL.l0 rfl ?_
      rw [hC p (by omega)]
      refine z_icmp_ge (tgt := 74) eX3_sumOf_11 rfl ⟨⟨by omega, by omega⟩, ⟨by omega, by omega⟩⟩ (fun h11 => (by exfalso; omega)) (fun h11 => ?_)
      refine z_al0 eX3_sumOf_14 hne ?_
      refine z_oa (j := 1) lX3_9 eX3_sumOf_15 rfl hL.n0 hL.l0 rfl hF.f1 ?_
      refine z_il4 eX3_sumOf_18 ?_
      refine z_ol eX3_sumOf_20 hL.n1 hL.l1 ⟨by omega, by omega⟩ ?_
      rw [e1.2.1]
      refine z_il1 eX3_sumOf_21 ?_
      refine z_icmp_ne (tgt := 68) eX3_sumOf_22 rfl ⟨⟨by omega, by omega⟩, ⟨by omega, by omega⟩⟩ (fun h22 => ?_) (fun h22 => ?_)
      · refine z_ii4 eX3_sumOf_68 (Nat.ne_of_beq_eq_false rfl) ?_
        refine z_goto eX3_sumOf_71 (tgt := 5) rfl ?_
        first | (rw [if_pos ⟨h22, by rw [← a4]; exact zbi_t h55⟩] at ih; exact ih C52 q3) | (rw [if_neg (fun z => h55 (zbi_1.mp (a4.trans z.2))), Int.add_zero] at ih; exact ih C52 q3) | (rw [if_neg (fun z => h22 z.1), Int.add_zero] at ih; exact ih C hC) | fail
      · refine z_al0 eX3_sumOf_25 hne ?_
        refine z_il4 eX3_sumOf_26 ?_
        refine z_if_ne (tgt := 35) eX3_sumOf_28 rfl ⟨by omega, by omega⟩ (fun h28 => ?_) (fun h28 => ?_)
        · rw [if_neg h28] at a1 b3
          refine z_al0 eX3_sumOf_35 hne ?_
          refine z_oa (j := 3) lX3_16 eX3_sumOf_36 rfl hL.n0 hL.l0 rfl hF.f3 ?_
          refine z_il4 eX3_sumOf_39 ?_
          refine z_iconst eX3_sumOf_41 ?_
          refine z_isub eX3_sumOf_42 ?_
          refine z_ol eX3_sumOf_43 hL.n3 hL.l3 ⟨by omega, by omega⟩ ?_
          first | rw [e1.2.2.2.1] | skip
          refine z_al0 eX3_sumOf_44 hne ?_
          refine z_oa (j := 3) lX3_16 eX3_sumOf_45 rfl hL.n0 hL.l0 rfl hF.f3 ?_
          refine z_il4 eX3_sumOf_48 ?_
          refine z_ol eX3_sumOf_50 hL.n3 hL.l3 ⟨by omega, by omega⟩ ?_
          rw [e1.2.2.2.1]
          refine z_al2 eX3_sumOf_51 (by omega) ?_
          refine z_V3y eX3_sumOf_52 vX3_32 rfl rfl (Nat.le_of_ble_eq_true rfl) (Nat.le_of_ble_eq_true rfl) hL.l0 (c_X3_holds hT hA hL hF ⟨by omega, by omega, by omega⟩ a1 a2 a3) (fun s52 C52 hs52 => ?_)
          obtain ⟨q1, q2⟩ := hs52
          subst q1
          have q3 := hC.trans q2
          have hF : LwF C52 p := hF.cg (q2 p (by omega))
          have e2 := q3.same
          refine z_ifb_eq (tgt := 68) eX3_sumOf_55 rfl (fun h55 => ?_) (fun h55 => ?_)
          · refine z_ii4 eX3_sumOf_68 (Nat.ne_of_beq_eq_false rfl) ?_
            refine z_goto eX3_sumOf_71 (tgt := 5) rfl ?_
            first | (rw [if_pos ⟨h22, by rw [← a4]; exact zbi_t h55⟩] at ih; exact ih C52 q3) | (rw [if_neg (fun z => h55 (zbi_1.mp (a4.trans z.2))), Int.add_zero] at ih; exact ih C52 q3) | (rw [if_neg (fun z => h22 z.1), Int.add_zero] at ih; exact ih C hC) | fail
          · refine z_il3 eX3_sumOf_58 ?_
            refine z_al0 eX3_sumOf_59 hne ?_
            refine z_oa (j := 2) lX3_13 eX3_sumOf_60 rfl hL.n0 hL.l0 rfl hF.f2 ?_
            refine z_il4 eX3_sumOf_63 ?_
            refine z_ol eX3_sumOf_65 hL.n2 hL.l2 ⟨by omega, by omega⟩ ?_
            rw [e2.2.2.1]
            refine z_iadd eX3_sumOf_66 ?_
            refine z_is3 eX3_sumOf_67 (Nat.ne_of_beq_eq_false rfl) ?_
            refine z_ii4 eX3_sumOf_68 (Nat.ne_of_beq_eq_false rfl) ?_
            refine z_goto eX3_sumOf_71 (tgt := 5) rfl ?_
            first | (rw [if_pos ⟨h22, by rw [← a4]; exact zbi_t h55⟩] at ih; exact ih C52 q3) | (rw [if_neg (fun z => h55 (zbi_1.mp (a4.trans z.2))), Int.add_zero] at ih; exact ih C52 q3) | (rw [if_neg (fun z => h22 z.1), Int.add_zero] at ih; exact ih C hC) | fail
        · rw [if_pos h28] at a1 b3
          refine z_iconst eX3_sumOf_31 ?_
          refine z_goto eX3_sumOf_32 (tgt := 44) rfl ?_
          first | rw [e1.2.2.2.1] | skip
          refine z_al0 eX3_sumOf_44 hne ?_
          refine z_oa (j := 3) lX3_16 eX3_sumOf_45 rfl hL.n0 hL.l0 rfl hF.f3 ?_
          refine z_il4 eX3_sumOf_48 ?_
          refine z_ol eX3_sumOf_50 hL.n3 hL.l3 ⟨by omega, by omega⟩ ?_
          rw [e1.2.2.2.1]
          refine z_al2 eX3_sumOf_51 (by omega) ?_
          refine z_V3y eX3_sumOf_52 vX3_32 rfl rfl (Nat.le_of_ble_eq_true rfl) (Nat.le_of_ble_eq_true rfl) hL.l0 (c_X3_holds hT hA hL hF ⟨by omega, by omega, by omega⟩ a1 a2 a3) (fun s52 C52 hs52 => ?_)
          obtain ⟨q1, q2⟩ := hs52
          subst q1
          have q3 := hC.trans q2
          have hF : LwF C52 p := hF.cg (q2 p (by omega))
          have e2 := q3.same
          refine z_ifb_eq (tgt := 68) eX3_sumOf_55 rfl (fun h55 => ?_) (fun h55 => ?_)
          · refine z_ii4 eX3_sumOf_68 (Nat.ne_of_beq_eq_false rfl) ?_
            refine z_goto eX3_sumOf_71 (tgt := 5) rfl ?_
            first | (rw [if_pos ⟨h22, by rw [← a4]; exact zbi_t h55⟩] at ih; exact ih C52 q3) | (rw [if_neg (fun z => h55 (zbi_1.mp (a4.trans z.2))), Int.add_zero] at ih; exact ih C52 q3) | (rw [if_neg (fun z => h22 z.1), Int.add_zero] at ih; exact ih C hC) | fail
          · refine z_il3 eX3_sumOf_58 ?_
            refine z_al0 eX3_sumOf_59 hne ?_
            refine z_oa (j := 2) lX3_13 eX3_sumOf_60 rfl hL.n0 hL.l0 rfl hF.f2 ?_
            refine z_il4 eX3_sumOf_63 ?_
            refine z_ol eX3_sumOf_65 hL.n2 hL.l2 ⟨by omega, by omega⟩ ?_
            rw [e2.2.2.1]
            refine z_iadd eX3_sumOf_66 ?_
            refine z_is3 eX3_sumOf_67 (Nat.ne_of_beq_eq_false rfl) ?_
            refine z_ii4 eX3_sumOf_68 (Nat.ne_of_beq_eq_false rfl) ?_
            refine z_goto eX3_sumOf_71 (tgt := 5) rfl ?_
            first | (rw [if_pos ⟨h22, by rw [← a4]; exact zbi_t h55⟩] at ih; exact ih C52 q3) | (rw [if_neg (fun z => h55 (zbi_1.mp (a4.trans z.2))), Int.add_zero] at ih; exact ih C52 q3) | (rw [if_neg (fun z => h22 z.1), Int.add_zero] at ih; exact ih C hC) | fail
  refine z_iconst eX3_sumOf_0 ?_
  refine z_is3 eX3_sumOf_1 (Nat.ne_of_beq_eq_false rfl) ?_
  refine z_iconst eX3_sumOf_2 ?_
  refine z_is4 eX3_sumOf_3 (Nat.ne_of_beq_eq_false rfl) ?_
  exact hl 0 (by decide) hB0.1 C0 (zStk.refl _ _)
