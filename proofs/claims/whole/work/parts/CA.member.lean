/-! A member, added. -/
theorem zbit_ext {a c : Int} (ha : zin a) (hc : zin c) (h : ∀ p : Int, 0 ≤ p → p < 32 → (zbit a p = 1 ↔ zbit c p = 1)) : a = c := by
  refine zB_ext ha hc (fun k hk => ?_)
  have := h k (by omega) (by omega)
  rw [zbit_B1 (by omega) (by omega), zbit_B1 (by omega) (by omega), Int.toNat_natCast] at this
  cases e1 : zB a k <;> cases e2 : zB c k <;> rw [e1, e2] at this <;> simp at this <;> rfl
theorem zbit_01s {f : Int → Int} {n : Int} (hn : 0 ≤ n ∧ n ≤ 31) (hf : ∀ t, 0 ≤ t → t < n → f t = 0 ∨ f t = 1) {i : Int} (hi : 0 ≤ i ∧ i < 32) : zbit (zors (fun t => zshl (f t) t) n) i = 1 ↔ i < n ∧ f i = 1 := by
  rw [zbit_B1 hi.1 hi.2, zB_zors _ hn.1]
  constructor
  · rintro ⟨t, ⟨t0, t1⟩, h⟩
    have := (zB_shlb (hf t t0 t1) t0 (by omega) (by omega)).mp h
    rw [Int.toNat_of_nonneg hi.1] at this
    rw [this.2]
    exact ⟨t1, this.1⟩
  · rintro ⟨h1, h2⟩
    exact ⟨i, ⟨hi.1, h1⟩, (zB_shlb (hf i hi.1 h1) hi.1 (by omega) (by omega)).mpr ⟨h2, Int.toNat_of_nonneg hi.1⟩⟩
theorem qWith_in (s p v : Int) : zin (qWith s p v) := by
  unfold qWith
  split
  · exact zand_in _ _
  · exact zor_in _ _
theorem qWith_B {s p v i : Int} (hp : 0 ≤ p ∧ p < 32) (hi : 0 ≤ i ∧ i < 32) (hv : v = 0 ∨ v = 1) : zbit (qWith s p v) i = 1 ↔ if i = p then v = 1 else zbit s i = 1 := by
  unfold qWith
  rcases hv with z | z
  · rw [if_pos z, zbit_drop hp hi]
    split <;> omega
  · rw [if_neg (by omega), zbit_set hp hi]
    split <;> omega
theorem qWith_zors {f g : Int → Int} {n m p v : Int} (hn : 0 ≤ n ∧ n ≤ m ∧ m ≤ n + 1 ∧ m ≤ 31) (hp : 0 ≤ p ∧ p < m ∧ (m = n + 1 → p = n)) (hf : ∀ t, 0 ≤ t → t < n → f t = 0 ∨ f t = 1) (hv : v = 0 ∨ v = 1) (hg : ∀ t, 0 ≤ t → t < m → g t = if t = p then v else f t) : qWith (zors (fun t => zshl (f t) t) n) p v = zors (fun t => zshl (g t) t) m := by
  refine zbit_ext (qWith_in _ _ _) (zors_in _ (by omega)) (fun i i0 i1 => ?_)
  rw [qWith_B ⟨hp.1, by omega⟩ ⟨i0, i1⟩ hv, zbit_01s ⟨by omega, by omega⟩ hf ⟨i0, i1⟩, zbit_01s ⟨by omega, hn.2.2.2⟩ (fun t t0 t1 => by
    rw [hg t t0 t1]
    split
    · exact hv
    · exact hf t t0 (by omega)) ⟨i0, i1⟩]
  by_cases c : i = p
  · rw [if_pos c]
    have := hg p hp.1 hp.2.1
    rw [if_pos rfl] at this
    rw [c, this]
    omega
  · rw [if_neg c]
    by_cases c2 : i < m
    · rw [hg i i0 c2, if_neg c]
      omega
    · omega
theorem c_X1_addMember {G : zG} {lay : zLay} {σ C0 : zMem} {nx x b : Int} (hT : TopL lay x) {pl se hv ov : Int} {M : Int → Int} (hA : CoAt b) (hN : CoN σ b M) (hI : zInv M) (h3 : M 3 < 7) (hh : hv = 0 ∨ hv = 1) (ho : ov = 0 ∨ ov = 1) : zMM G 2 KX1_addMember [zP (x + b), zI pl, zI se, zI hv, zI ov] lay (tC x σ C0) nx (0, 0) (zZ' none (fun q => zOut b 18 σ q ∧ q b 10 = σ b 10 ∧ CoN q b (qMem M pl se hv (1 - ov))) lay C0 nx x) := by
  refine z_met' (L := [zP (x + b), zI pl, zI se, zI hv, zI ov]) gX1_addMember.1 rfl rfl (Nat.le_of_ble_eq_true rfl) rfl ?_
  have hb0 := hA.b0 (by decide)
  have hx := hT.1
  have hne : x + b ≠ -1 := by omega
  have hm3 := hI.m3
  have n3 := hN.n3
  have e : ∀ j, j ≠ 3 → ¬ (46 + 4 * M 3 ≤ j ∧ j < 50 + 4 * M 3) → qMem M pl se hv (1 - ov) j = M j := by
    intro j j1 j2
    unfold qMem
    rw [zput_ne j1, zput_ne (by omega), zput_ne (by omega), zput_ne (by omega), zput_ne (by omega)]
  have e3 : qMem M pl se hv (1 - ov) 3 = M 3 + 1 := by unfold qMem; rw [zput_eq]
  have f0 : qMem M pl se hv (1 - ov) (46 + 4 * M 3 + 0) = pl := by
    unfold qMem
    rw [zput_ne (by omega), zput_ne (by omega), zput_ne (by omega), zput_ne (by omega), zput_eq]
  have f1 : qMem M pl se hv (1 - ov) (46 + 4 * M 3 + 1) = se := by
    unfold qMem
    rw [zput_ne (by omega), zput_ne (by omega), zput_ne (by omega), zput_eq]
  have f2 : qMem M pl se hv (1 - ov) (46 + 4 * M 3 + 2) = hv := by
    unfold qMem
    rw [zput_ne (by omega), zput_ne (by omega), zput_eq]
  have f3 : qMem M pl se hv (1 - ov) (46 + 4 * M 3 + 3) = ov := by
    unfold qMem
    rw [zput_ne (by omega), zput_eq]
    omega
  have hU : ∀ t, 0 ≤ t → t < M 3 → (M (46 + 4 * t + 2) = 0 ∨ M (46 + 4 * t + 2) = 1) ∧ (M (46 + 4 * t + 3) = 0 ∨ M (46 + 4 * t + 3) = 1) := fun t t0 t1 => by
    have := hI.U (p := t) ⟨t0, by omega⟩
    omega
  have hha : qWith (qHats M) (M 3) hv = qHats (qMem M pl se hv (1 - ov)) := by
    unfold qHats
    rw [e3]
    refine qWith_zors ⟨hm3.1, by omega, by omega, by omega⟩ ⟨hm3.1, by omega, fun _ => rfl⟩ (fun t t0 t1 => (hU t t0 t1).1) hh (fun t t0 t1 => ?_)
    by_cases c : t = M 3
    · rw [if_pos c, c, f2]
    · rw [if_neg c, e _ (by omega) (by omega)]
  have hou : qWith (qOuts M) (M 3) ov = qOuts (qMem M pl se hv (1 - ov)) := by
    unfold qOuts
    rw [e3]
    refine qWith_zors ⟨hm3.1, by omega, by omega, by omega⟩ ⟨hm3.1, by omega, fun _ => rfl⟩ (fun t t0 t1 => (hU t t0 t1).2) ho (fun t t0 t1 => ?_)
    by_cases c : t = M 3
    · rw [if_pos c, c, f3]
    · rw [if_neg c, e _ (by omega) (by omega)]
  have g1 : ∀ v w, zset (zset σ (b + 1) (M 3) v) (b + 2) (M 3) w b = σ b := fun v w => by rw [zset_o (by omega), zset_o (by omega)]
  have hfin : CoN (zset (zset (zset (zset (zset σ (b + 1) (M 3) pl) (b + 2) (M 3) se) b 4 (qWith (qHats M) (M 3) hv)) b 5 (qWith (qOuts M) (M 3) ov)) b 1 (M 3 + 1)) b (qMem M pl se hv (1 - ov)) := by
    refine ⟨?_, ?_, ?_, ?_, ?_, ?_, ?_, ?_, ?_, ?_, ?_, ?_, ?_⟩
    · rw [zset_f (by decide), zset_f (by decide), zset_f (by decide), g1, e 0 (by decide) (by omega)]; exact hN.n0
    · rw [zset_eq, e3]
    · intro p p0 p1
      rw [e3] at p1
      rw [zset_o (by omega), zset_o (by omega), zset_o (by omega), zset_o (by omega)]
      by_cases c : p = M 3
      · rw [c, zset_eq, f0]
      · rw [zset_f c, e _ (by omega) (by omega)]; exact hN.pl p p0 (by omega)
    · intro p p0 p1
      rw [e3] at p1
      rw [zset_o (by omega), zset_o (by omega), zset_o (by omega)]
      by_cases c : p = M 3
      · rw [c, zset_eq, f1]
      · rw [zset_f c, zset_o (by omega), e _ (by omega) (by omega)]; exact hN.se p p0 (by omega)
    · intro k k0 k1
      rw [zset_o (by omega), zset_o (by omega), zset_o (by omega), zset_o (by omega), zset_o (by omega), e _ (by omega) (by omega)]
      exact hN.ex k k0 k1
    · rw [zset_f (by decide), zset_f (by decide), zset_eq]; exact hha
    · rw [zset_f (by decide), zset_eq]; exact hou
    · rw [zset_f (by decide), zset_f (by decide), zset_f (by decide), g1, e 8 (by decide) (by omega)]; exact hN.n8
    · rw [zset_f (by decide), zset_f (by decide), zset_f (by decide), g1, e 9 (by decide) (by omega)]; exact hN.n9
    · rw [zset_f (by decide), zset_f (by decide), zset_f (by decide), g1, e 10 (by decide) (by omega)]; exact hN.n10
    · exact (hN.we.out (by iterate 5 rw [zset_o (by omega)]) (by iterate 5 rw [zset_o (by omega)])).m (fun j hj => e j (by omega) (by omega))
    · exact (hN.mo.out (fun q q0 q1 => by iterate 5 rw [zset_o (by omega)])).m hI.m4.2 (fun j hj => e j (by omega) (by omega))
    · exact (hN.lo.out (by iterate 5 rw [zset_o (by omega)]) (by iterate 5 rw [zset_o (by omega)])).m hI.m11.2 (fun j hj => e j (by omega) (by omega))
  refine z_al0 eX1_addMember_0 hne ?_
  first | refine z_tg0 (j := 1) lX1_66 eX1_addMember_1 rfl hT hA (by decide) rfl rfl rfl ?_ | refine z_tg (j := 1) lX1_66 eX1_addMember_1 rfl hT hA ⟨by decide, by decide⟩ rfl rfl rfl ?_
  first | rw [n3] | skip
  refine z_if_lt (tgt := 16) eX1_addMember_4 rfl ⟨by omega, by omega⟩ (fun h4 => (by exfalso; omega)) (fun h4 => ?_)
  refine z_al0 eX1_addMember_7 hne ?_
  first | refine z_tg0 (j := 1) lX1_66 eX1_addMember_8 rfl hT hA (by decide) rfl rfl rfl ?_ | refine z_tg (j := 1) lX1_66 eX1_addMember_8 rfl hT hA ⟨by decide, by decide⟩ rfl rfl rfl ?_
  first | rw [n3] | skip
  refine z_bipush eX1_addMember_11 (by decide) ?_
  refine z_icmp_lt (tgt := 17) eX1_addMember_13 rfl ⟨⟨by omega, by omega⟩, ⟨by omega, by omega⟩⟩ (fun h13 => ?_) (fun h13 => (by exfalso; omega))
  refine z_al0 eX1_addMember_17 hne ?_
  first | refine z_ta0 lX1_9 eX1_addMember_18 rfl hT hA (by decide) rfl rfl ?_ | refine z_ta lX1_9 eX1_addMember_18 rfl hT hA ⟨by decide, by decide⟩ rfl rfl ?_
  first | rw [n3] | skip
  refine z_al0 eX1_addMember_21 hne ?_
  first | refine z_tg0 (j := 1) lX1_66 eX1_addMember_22 rfl hT hA (by decide) rfl rfl rfl ?_ | refine z_tg (j := 1) lX1_66 eX1_addMember_22 rfl hT hA ⟨by decide, by decide⟩ rfl rfl rfl ?_
  first | rw [n3] | skip
  refine z_il1 eX1_addMember_25 ?_
  refine z_ts eX1_addMember_26 hT hA ⟨by decide, by decide⟩ rfl rfl ⟨by omega, by omega⟩ ?_
  refine z_al0 eX1_addMember_27 hne ?_
  first | refine z_ta0 lX1_15 eX1_addMember_28 rfl hT hA (by decide) rfl rfl ?_ | refine z_ta lX1_15 eX1_addMember_28 rfl hT hA ⟨by decide, by decide⟩ rfl rfl ?_
  first | rw [n3] | skip
  refine z_al0 eX1_addMember_31 hne ?_
  first | refine z_tg0 (j := 1) lX1_66 eX1_addMember_32 rfl hT hA (by decide) rfl rfl rfl ?_ | refine z_tg (j := 1) lX1_66 eX1_addMember_32 rfl hT hA ⟨by decide, by decide⟩ rfl rfl rfl ?_
  first | rw [n3] | skip
  rw [zset_o (by omega), n3]
  refine z_il2 eX1_addMember_35 ?_
  refine z_ts eX1_addMember_36 hT hA ⟨by decide, by decide⟩ rfl rfl ⟨by omega, by omega⟩ ?_
  refine z_al0 eX1_addMember_37 hne ?_
  refine z_al0 eX1_addMember_38 hne ?_
  first | refine z_tg0 (j := 4) lX1_75 eX1_addMember_39 rfl hT hA (by decide) rfl rfl rfl ?_ | refine z_tg (j := 4) lX1_75 eX1_addMember_39 rfl hT hA ⟨by decide, by decide⟩ rfl rfl rfl ?_
  first | rw [n3] | skip
  rw [g1, hN.ha]
  refine z_al0 eX1_addMember_42 hne ?_
  first | refine z_tg0 (j := 1) lX1_66 eX1_addMember_43 rfl hT hA (by decide) rfl rfl rfl ?_ | refine z_tg (j := 1) lX1_66 eX1_addMember_43 rfl hT hA ⟨by decide, by decide⟩ rfl rfl rfl ?_
  first | rw [n3] | skip
  rw [g1, n3]
  refine z_il3 eX1_addMember_46 ?_
  refine z_N3 eX1_addMember_47 vX1_97 rfl (Nat.le_of_ble_eq_true rfl) (Nat.le_of_ble_eq_true rfl) (c_X11_withBit hT hh) ?_
  first | rw [n3] | skip
  first | refine z_tp0 (j := 4) lX1_75 eX1_addMember_50 rfl hT hA (by decide) rfl rfl rfl ?_ | refine z_tp (j := 4) lX1_75 eX1_addMember_50 rfl hT hA ⟨by decide, by decide⟩ rfl rfl rfl ?_
  refine z_al0 eX1_addMember_53 hne ?_
  refine z_al0 eX1_addMember_54 hne ?_
  first | refine z_tg0 (j := 5) lX1_78 eX1_addMember_55 rfl hT hA (by decide) rfl rfl rfl ?_ | refine z_tg (j := 5) lX1_78 eX1_addMember_55 rfl hT hA ⟨by decide, by decide⟩ rfl rfl rfl ?_
  first | rw [n3] | skip
  rw [zset_f (by decide), g1, hN.ou]
  refine z_al0 eX1_addMember_58 hne ?_
  first | refine z_tg0 (j := 1) lX1_66 eX1_addMember_59 rfl hT hA (by decide) rfl rfl rfl ?_ | refine z_tg (j := 1) lX1_66 eX1_addMember_59 rfl hT hA ⟨by decide, by decide⟩ rfl rfl rfl ?_
  first | rw [n3] | skip
  rw [zset_f (by decide), g1, n3]
  refine z_il4 eX1_addMember_62 ?_
  refine z_N3 eX1_addMember_64 vX1_97 rfl (Nat.le_of_ble_eq_true rfl) (Nat.le_of_ble_eq_true rfl) (c_X11_withBit hT ho) ?_
  first | rw [n3] | skip
  first | refine z_tp0 (j := 5) lX1_78 eX1_addMember_67 rfl hT hA (by decide) rfl rfl rfl ?_ | refine z_tp (j := 5) lX1_78 eX1_addMember_67 rfl hT hA ⟨by decide, by decide⟩ rfl rfl rfl ?_
  refine z_al0 eX1_addMember_70 hne ?_
  refine z_dup eX1_addMember_71 (Nat.ne_of_beq_eq_false rfl) ?_
  first | refine z_tg0 (j := 1) lX1_66 eX1_addMember_72 rfl hT hA (by decide) rfl rfl rfl ?_ | refine z_tg (j := 1) lX1_66 eX1_addMember_72 rfl hT hA ⟨by decide, by decide⟩ rfl rfl rfl ?_
  first | rw [n3] | skip
  rw [zset_f (by decide), zset_f (by decide), g1, n3]
  refine z_iconst eX1_addMember_75 ?_
  refine z_iadd eX1_addMember_76 ?_
  first | refine z_tp0 (j := 1) lX1_66 eX1_addMember_77 rfl hT hA (by decide) rfl rfl rfl ?_ | refine z_tp (j := 1) lX1_66 eX1_addMember_77 rfl hT hA ⟨by decide, by decide⟩ rfl rfl rfl ?_
  refine z_return eX1_addMember_80 rfl ?_
  exact zZv ⟨((((((zOut.refl _ _ _).set ⟨by omega, by omega⟩).set ⟨by omega, by omega⟩).set ⟨by omega, by omega⟩).set ⟨by omega, by omega⟩).set ⟨by omega, by omega⟩), by rw [zset_f (by decide), zset_f (by decide), zset_f (by decide), g1], hfin⟩
