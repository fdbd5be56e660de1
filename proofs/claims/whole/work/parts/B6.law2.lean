/-! Whether a condition holds. -/
theorem zset_row (C : zMem) (o j v : Int) : zset C o j v o = zput (C o) j v := by
  funext i
  rw [zset_at, zput_at]
  by_cases e : i = j
  · rw [if_pos ⟨rfl, e⟩, if_pos e]
  · rw [if_neg (fun z => e z.2), if_neg e]
/-- only the stack of the law at p has changed; nothing, where there is no law -/
def zStk (C0 : zMem) (p : Int) (C : zMem) : Prop := ∀ o, o ≠ p + 5 ∨ p = -1 → C o = C0 o
theorem zStk.refl (C0 : zMem) (p : Int) : zStk C0 p C0 := fun _ _ => rfl
theorem zStk.set {C0 C : zMem} {p j v : Int} (h : zStk C0 p C) (hp : p ≠ -1) : zStk C0 p (zset C (p + 5) j v) := fun o ho => by
  rw [zset_o (by omega)]; exact h o ho
theorem zStk.trans {C0 C C1 : zMem} {p : Int} (h : zStk C0 p C) (h2 : zStk C p C1) : zStk C0 p C1 := fun o ho => (h2 o ho).trans (h o ho)
def qHolds (r : Int × (Int → Int)) : Prop := r.1 = 0 ∨ r.2 0 = 1
theorem c_X3_holds {G : zG} {lay : zLay} {σ C0 : zMem} {nx x b : Int} (hT : TopL lay x) {p n i0 i1 : Int} {m : Nat} {r' : Int × (Int → Int)} (hA : CoAt b) (hL : LwA lay x p n) (hF : LwF C0 p) (hi : 0 ≤ i0 ∧ i0 + m = i1 ∧ i1 ≤ n) (hr : qRunOK (σ (b + 17)) (C0 (p + 4)) m i0 (0, C0 (p + 5)) r') (hr1 : 0 ≤ r'.1 ∧ r'.1 ≤ 24) (hz : r'.1 = 0 ∨ zin (r'.2 0)) : zMM G 2 KX3_holds [zP p, zI i0, zI i1, zP (x + (b + 17))] lay (tC x σ C0) nx (0, 0) (zY' (some (zI (zbi (qHolds r')))) (fun s C => s = σ ∧ zStk C0 p C) lay nx x) := by
  refine z_met' (L := [zP p, zI i0, zI i1, zP (x + (b + 17)), zU, zU, zU, zU]) gX3_holds.1 rfl rfl (Nat.le_of_ble_eq_true rfl) rfl ?_
  have hx := hT.1
  have hp := hL.p0
  have hb0 := hA.b0 (by decide)
  have hnn := hL.nn
  have hne : p ≠ -1 := by omega
  have hl : ∀ (m : Nat) (i t : Int) (C : zMem) (y6 y7 : zAV), 0 ≤ i → i + m = i1 → 0 ≤ t ∧ t ≤ 24 → zStk C0 p C → qRunOK (σ (b + 17)) (C0 (p + 4)) m i (t, C (p + 5)) r' → zW G KX3_holds 2 (zY' (some (zI (zbi (qHolds r')))) (fun s C => s = σ ∧ zStk C0 p C) lay nx x) 6 [zP p, zI i0, zI i1, zP (x + (b + 17)), zI t, zI i, y6, y7] [] lay (tC x σ C) nx (0, 0) := by
    intro m
    induction m with
    | zero =>
      intro i t C y6 y7 q0 q1 qt hC hr
      have hF : LwF C p := hF.cg (hC p (by omega))
      have er : (t, C (p + 5)) = r' := hr
      have e0 : C (p + 5) 0 = r'.2 0 := by rw [← er]
      have e1 : t = r'.1 := by rw [← er]
      unfold zin at hz
      have hq : qHolds r' ↔ (t = 0 ∨ C (p + 5) 0 = 1) := by unfold qHolds; rw [e0, e1]
      refine z_il5 eX3_holds_6 ?_
      refine z_il2 eX3_holds_8 ?_
      refine z_icmp_ge (tgt := 181) eX3_holds_9 rfl ⟨⟨by omega, by omega⟩, ⟨by omega, by omega⟩⟩ (fun h9 => ?_) (fun h9 => (by exfalso; omega))
      refine z_il4 eX3_holds_181 ?_
      refine z_if_eq (tgt := 196) eX3_holds_183 rfl ⟨by omega, by omega⟩ (fun h183 => ?_) (fun h183 => ?_)
      · refine z_iconst eX3_holds_196 ?_
        refine z_goto eX3_holds_197 (tgt := 201) rfl ?_
        refine z_zreturn eX3_holds_201 rfl (by first | exact Or.inl rfl | exact Or.inr rfl | exact zbi_01 _ | assumption | omega) ?_
        first | exact zYe ⟨rfl, hC⟩ (by rw [zbi_t (hq.mpr (by omega))]) | exact zYe ⟨rfl, hC⟩ (by rw [zbi_f (fun z => absurd (hq.mp z) (by omega))]) | fail
      · refine z_al0 eX3_holds_186 hne ?_
        refine z_oa (j := 6) lX3_22 eX3_holds_187 rfl hL.n0 hL.l0 rfl hF.f6 ?_
        refine z_iconst eX3_holds_190 ?_
        refine z_ol eX3_holds_191 hL.n5 hL.l5 ⟨by omega, by omega⟩ ?_
        refine z_iconst eX3_holds_192 ?_
        refine z_icmp_ne (tgt := 200) eX3_holds_193 rfl ⟨⟨by omega, by omega⟩, ⟨by omega, by omega⟩⟩ (fun h193 => ?_) (fun h193 => ?_)
        · refine z_iconst eX3_holds_200 ?_
          refine z_zreturn eX3_holds_201 rfl (by first | exact Or.inl rfl | exact Or.inr rfl | exact zbi_01 _ | assumption | omega) ?_
          first | exact zYe ⟨rfl, hC⟩ (by rw [zbi_t (hq.mpr (by omega))]) | exact zYe ⟨rfl, hC⟩ (by rw [zbi_f (fun z => absurd (hq.mp z) (by omega))]) | fail
        · refine z_iconst eX3_holds_196 ?_
          refine z_goto eX3_holds_197 (tgt := 201) rfl ?_
          refine z_zreturn eX3_holds_201 rfl (by first | exact Or.inl rfl | exact Or.inr rfl | exact zbi_01 _ | assumption | omega) ?_
          first | exact zYe ⟨rfl, hC⟩ (by rw [zbi_t (hq.mpr (by omega))]) | exact zYe ⟨rfl, hC⟩ (by rw [zbi_f (fun z => absurd (hq.mp z) (by omega))]) | fail
    | succ m ih =>
      intro i t C y6 y7 q0 q1 qt hC hr
      have hF : LwF C p := hF.cg (hC p (by omega))
      obtain ⟨hk, hr⟩ := hr
      have hst : ∀ j, C (p + 4) j = C0 (p + 4) j := fun j => by rw [hC (p + 4) (by omega)]
      unfold qStp at hr
      unfold qOKs at hk
      dsimp only at hk hr
      generalize hs : C0 (p + 4) i = s at hk hr
      obtain ⟨k0, k1, k2, k3, k4⟩ := hk
      have c1 : s < 2000 → ∀ v y7, v = (if 0 ≤ s - 1000 then σ (b + 17) (s - 1000) else s) → zW G KX3_holds 2 (zY' (some (zI (zbi (qHolds r')))) (fun s C => s = σ ∧ zStk C0 p C) lay nx x) 6 [zP p, zI i0, zI i1, zP (x + (b + 17)), zI (t + 1), zI (i + 1), zI s, y7] [] lay (tC x σ (zset C (p + 5) t v)) nx (0, 0) := by
        intro z v y7 hv
        rw [if_pos z] at hr
        have := k2 z
        refine ih (i + 1) (t + 1) _ _ _ (by omega) (by omega) (by omega) (hC.set hne) ?_
        rw [zset_row, hv]
        exact hr
      have c2 : s = 2005 → ∀ y7, zW G KX3_holds 2 (zY' (some (zI (zbi (qHolds r')))) (fun s C => s = σ ∧ zStk C0 p C) lay nx x) 6 [zP p, zI i0, zI i1, zP (x + (b + 17)), zI t, zI (i + 1), zI s, y7] [] lay (tC x σ (zset C (p + 5) (t - 1) (1 - C (p + 5) (t - 1)))) nx (0, 0) := by
        intro z y7
        rw [if_neg (by omega), if_pos z] at hr
        have := k3 z
        refine ih (i + 1) t _ _ _ (by omega) (by omega) (by omega) (hC.set hne) ?_
        rw [zset_row]
        exact hr
      have c3 : 2000 ≤ s → s ≠ 2005 → ∀ y7, zW G KX3_holds 2 (zY' (some (zI (zbi (qHolds r')))) (fun s C => s = σ ∧ zStk C0 p C) lay nx x) 6 [zP p, zI i0, zI i1, zP (x + (b + 17)), zI (t + -1), zI (i + 1), zI s, y7] [] lay (tC x σ (zset C (p + 5) (t - 2) (qJoin s (C (p + 5) (t - 2)) (C (p + 5) (t - 1))))) nx (0, 0) := by
        intro z z2 y7
        rw [if_neg (by omega), if_neg z2] at hr
        have := k4 ⟨z, z2⟩
        rw [show t + -1 = t - 1 by omega]
        refine ih (i + 1) (t - 1) _ _ _ (by omega) (by omega) (by omega) (hC.set hne) ?_
        rw [zset_row]
        exact hr
      have h2 := fun z z2 => (k4 ⟨z, z2⟩).2
      clear ih hr
      refine z_il5 eX3_holds_6 ?_
      refine z_il2 eX3_holds_8 ?_
      refine z_icmp_ge (tgt := 181) eX3_holds_9 rfl ⟨⟨by omega, by omega⟩, ⟨by omega, by omega⟩⟩ (fun h9 => (by exfalso; omega)) (fun h9 => ?_)
      refine z_il5 eX3_holds_12 ?_
      refine z_al0 eX3_holds_14 hne ?_
      refine z_oa (j := 5) lX3_19 eX3_holds_15 rfl hL.n0 hL.l0 rfl hF.f5 ?_
      refine z_on eX3_holds_18 hL.n4 hL.l4 ?_
      refine z_icmp_ge (tgt := 181) eX3_holds_19 rfl ⟨⟨by omega, by omega⟩, ⟨by omega, by omega⟩⟩ (fun h19 => (by exfalso; omega)) (fun h19 => ?_)
      refine z_al0 eX3_holds_22 hne ?_
      refine z_oa (j := 5) lX3_19 eX3_holds_23 rfl hL.n0 hL.l0 rfl hF.f5 ?_
      refine z_il5 eX3_holds_26 ?_
      refine z_ol eX3_holds_28 hL.n4 hL.l4 ⟨by omega, by omega⟩ ?_
      rw [hst, hs]
      refine z_is6 eX3_holds_29 (Nat.ne_of_beq_eq_false rfl) ?_
      refine z_il6 eX3_holds_31 ?_
      refine z_sipush eX3_holds_33 (by decide) ?_
      refine z_icmp_ge (tgt := 93) eX3_holds_36 rfl ⟨⟨by omega, by omega⟩, ⟨by omega, by omega⟩⟩ (fun h36 => ?_) (fun h36 => ?_)
      · refine z_il6 eX3_holds_93 ?_
        refine z_sipush eX3_holds_95 (by decide) ?_
        refine z_icmp_ne (tgt := 132) eX3_holds_98 rfl ⟨⟨by omega, by omega⟩, ⟨by omega, by omega⟩⟩ (fun h98 => ?_) (fun h98 => ?_)
        · refine z_il4 eX3_holds_132 ?_
          refine z_iconst eX3_holds_134 ?_
          refine z_icmp_ge (tgt := 140) eX3_holds_135 rfl ⟨⟨by omega, by omega⟩, ⟨by omega, by omega⟩⟩ (fun h135 => ?_) (fun h135 => (by exfalso; omega))
          refine z_al0 eX3_holds_140 hne ?_
          refine z_oa (j := 6) lX3_22 eX3_holds_141 rfl hL.n0 hL.l0 rfl hF.f6 ?_
          refine z_il4 eX3_holds_144 ?_
          refine z_iconst eX3_holds_146 ?_
          refine z_isub eX3_holds_147 ?_
          refine z_il6 eX3_holds_148 ?_
          refine z_al0 eX3_holds_150 hne ?_
          refine z_oa (j := 6) lX3_22 eX3_holds_151 rfl hL.n0 hL.l0 rfl hF.f6 ?_
          refine z_il4 eX3_holds_154 ?_
          refine z_iconst eX3_holds_156 ?_
          refine z_isub eX3_holds_157 ?_
          refine z_ol eX3_holds_158 hL.n5 hL.l5 ⟨by omega, by omega⟩ ?_
          refine z_al0 eX3_holds_159 hne ?_
          refine z_oa (j := 6) lX3_22 eX3_holds_160 rfl hL.n0 hL.l0 rfl hF.f6 ?_
          refine z_il4 eX3_holds_163 ?_
          refine z_iconst eX3_holds_165 ?_
          refine z_isub eX3_holds_166 ?_
          refine z_ol eX3_holds_167 hL.n5 hL.l5 ⟨by omega, by omega⟩ ?_
          refine z_S3 eX3_holds_168 vX3_36 rfl rfl (Nat.le_of_ble_eq_true rfl) (Nat.le_of_ble_eq_true rfl) (c_X3_join hT ⟨by omega, by omega⟩ (h2 (by omega) (by omega)).1 (h2 (by omega) (by omega)).2) ?_
          refine z_os eX3_holds_171 hL.n5 hL.l5 ⟨by omega, by omega⟩ ?_
          refine z_ii4 eX3_holds_172 (Nat.ne_of_beq_eq_false rfl) ?_
          refine z_ii5 eX3_holds_175 (Nat.ne_of_beq_eq_false rfl) ?_
          refine z_goto eX3_holds_178 (tgt := 6) rfl ?_
          first | (have z : s < 2000 := (by omega); have z2 : 0 ≤ s - 1000 := (by omega); exact c1 z _ _ (by rw [if_pos z2])) | (have z : s < 2000 := (by omega); have z2 : ¬ 0 ≤ s - 1000 := (by omega); exact c1 z _ _ (by rw [if_neg z2])) | (have z : s = 2005 := (by omega); exact c2 z _) | (have z : 2000 ≤ s := (by omega); have z2 : s ≠ 2005 := (by omega); exact c3 z z2 _) | fail
        · refine z_il4 eX3_holds_101 ?_
          refine z_iconst eX3_holds_103 ?_
          refine z_icmp_ge (tgt := 109) eX3_holds_104 rfl ⟨⟨by omega, by omega⟩, ⟨by omega, by omega⟩⟩ (fun h104 => ?_) (fun h104 => (by exfalso; omega))
          refine z_al0 eX3_holds_109 hne ?_
          refine z_oa (j := 6) lX3_22 eX3_holds_110 rfl hL.n0 hL.l0 rfl hF.f6 ?_
          refine z_il4 eX3_holds_113 ?_
          refine z_iconst eX3_holds_115 ?_
          refine z_isub eX3_holds_116 ?_
          refine z_iconst eX3_holds_117 ?_
          refine z_al0 eX3_holds_118 hne ?_
          refine z_oa (j := 6) lX3_22 eX3_holds_119 rfl hL.n0 hL.l0 rfl hF.f6 ?_
          refine z_il4 eX3_holds_122 ?_
          refine z_iconst eX3_holds_124 ?_
          refine z_isub eX3_holds_125 ?_
          refine z_ol eX3_holds_126 hL.n5 hL.l5 ⟨by omega, by omega⟩ ?_
          refine z_isub eX3_holds_127 ?_
          refine z_os eX3_holds_128 hL.n5 hL.l5 ⟨by omega, by omega⟩ ?_
          refine z_goto eX3_holds_129 (tgt := 175) rfl ?_
          refine z_ii5 eX3_holds_175 (Nat.ne_of_beq_eq_false rfl) ?_
          refine z_goto eX3_holds_178 (tgt := 6) rfl ?_
          first | (have z : s < 2000 := (by omega); have z2 : 0 ≤ s - 1000 := (by omega); exact c1 z _ _ (by rw [if_pos z2])) | (have z : s < 2000 := (by omega); have z2 : ¬ 0 ≤ s - 1000 := (by omega); exact c1 z _ _ (by rw [if_neg z2])) | (have z : s = 2005 := (by omega); exact c2 z _) | (have z : 2000 ≤ s := (by omega); have z2 : s ≠ 2005 := (by omega); exact c3 z z2 _) | fail
      · refine z_il6 eX3_holds_39 ?_
        refine z_sipush eX3_holds_41 (by decide) ?_
        refine z_isub eX3_holds_44 ?_
        refine z_is7 eX3_holds_45 (Nat.ne_of_beq_eq_false rfl) ?_
        refine z_il4 eX3_holds_47 ?_
        refine z_al0 eX3_holds_49 hne ?_
        refine z_oa (j := 6) lX3_22 eX3_holds_50 rfl hL.n0 hL.l0 rfl hF.f6 ?_
        refine z_on eX3_holds_53 hL.n5 hL.l5 ?_
        refine z_icmp_ge (tgt := 64) eX3_holds_54 rfl ⟨⟨by omega, by omega⟩, ⟨by omega, by omega⟩⟩ (fun h54 => (by exfalso; omega)) (fun h54 => ?_)
        refine z_il7 eX3_holds_57 ?_
        refine z_al3 eX3_holds_59 (by omega) ?_
        refine z_tn eX3_holds_60 hT hA ⟨by decide, by decide⟩ rfl ?_
        refine z_icmp_lt (tgt := 66) eX3_holds_61 rfl ⟨⟨by omega, by omega⟩, ⟨by omega, by omega⟩⟩ (fun h61 => ?_) (fun h61 => (by exfalso; omega))
        refine z_al0 eX3_holds_66 hne ?_
        refine z_oa (j := 6) lX3_22 eX3_holds_67 rfl hL.n0 hL.l0 rfl hF.f6 ?_
        refine z_il4 eX3_holds_70 ?_
        refine z_il7 eX3_holds_72 ?_
        refine z_if_lt (tgt := 84) eX3_holds_74 rfl ⟨by omega, by omega⟩ (fun h74 => ?_) (fun h74 => ?_)
        · refine z_il6 eX3_holds_84 ?_
          refine z_os eX3_holds_86 hL.n5 hL.l5 ⟨by omega, by omega⟩ ?_
          refine z_ii4 eX3_holds_87 (Nat.ne_of_beq_eq_false rfl) ?_
          refine z_goto eX3_holds_90 (tgt := 175) rfl ?_
          refine z_ii5 eX3_holds_175 (Nat.ne_of_beq_eq_false rfl) ?_
          refine z_goto eX3_holds_178 (tgt := 6) rfl ?_
          first | (have z : s < 2000 := (by omega); have z2 : 0 ≤ s - 1000 := (by omega); exact c1 z _ _ (by rw [if_pos z2])) | (have z : s < 2000 := (by omega); have z2 : ¬ 0 ≤ s - 1000 := (by omega); exact c1 z _ _ (by rw [if_neg z2])) | (have z : s = 2005 := (by omega); exact c2 z _) | (have z : 2000 ≤ s := (by omega); have z2 : s ≠ 2005 := (by omega); exact c3 z z2 _) | fail
        · refine z_al3 eX3_holds_77 (by omega) ?_
          refine z_il7 eX3_holds_78 ?_
          refine z_tl eX3_holds_80 hT hA ⟨by decide, by decide⟩ rfl rfl ⟨by omega, by omega⟩ ?_
          refine z_goto eX3_holds_81 (tgt := 86) rfl ?_
          refine z_os eX3_holds_86 hL.n5 hL.l5 ⟨by omega, by omega⟩ ?_
          refine z_ii4 eX3_holds_87 (Nat.ne_of_beq_eq_false rfl) ?_
          refine z_goto eX3_holds_90 (tgt := 175) rfl ?_
          refine z_ii5 eX3_holds_175 (Nat.ne_of_beq_eq_false rfl) ?_
          refine z_goto eX3_holds_178 (tgt := 6) rfl ?_
          first | (have z : s < 2000 := (by omega); have z2 : 0 ≤ s - 1000 := (by omega); exact c1 z _ _ (by rw [if_pos z2])) | (have z : s < 2000 := (by omega); have z2 : ¬ 0 ≤ s - 1000 := (by omega); exact c1 z _ _ (by rw [if_neg z2])) | (have z : s = 2005 := (by omega); exact c2 z _) | (have z : 2000 ≤ s := (by omega); have z2 : s ≠ 2005 := (by omega); exact c3 z z2 _) | fail
  refine z_iconst eX3_holds_0 ?_
  refine z_is4 eX3_holds_1 (Nat.ne_of_beq_eq_false rfl) ?_
  refine z_il1 eX3_holds_3 ?_
  refine z_is5 eX3_holds_4 (Nat.ne_of_beq_eq_false rfl) ?_
  exact hl m i0 0 C0 zU zU hi.1 hi.2.1 ⟨by decide, by decide⟩ (zStk.refl _ _) hr
