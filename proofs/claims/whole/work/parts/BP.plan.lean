/-! Plans of a day. -/
theorem qInSt_B {M : Int → Int} (hI : zInv M) (v : Int) {i : Int} (hi : 0 ≤ i ∧ i < 32) : zbit (qInSt M v) i = 1 ↔ i < M 4 ∧ M (74 + 5 * i + 4) = v := by
  have hm4 := hI.m4
  rw [zbit_B1 hi.1 hi.2]
  unfold qInSt
  rw [zB_zors _ hm4.1]
  constructor
  · rintro ⟨t, ⟨t0, t1⟩, h⟩
    by_cases e : M (74 + 5 * t + 4) = v
    · rw [if_pos e, zB_shl1 t0 (by omega) (by omega), decide_eq_true_iff, Int.toNat_of_nonneg hi.1] at h
      rw [h]; exact ⟨t1, e⟩
    · rw [if_neg e, zB_0] at h; cases h
  · rintro ⟨h1, h2⟩
    exact ⟨i, ⟨hi.1, h1⟩, by rw [if_pos h2, zB_shl1 hi.1 hi.2 (by omega), decide_eq_true_iff, Int.toNat_of_nonneg hi.1]⟩
theorem qInSt_256 {M : Int → Int} (hI : zInv M) (v : Int) : 0 ≤ qInSt M v ∧ qInSt M v < 256 := by
  have hm4 := hI.m4
  refine zB_of (x := qInSt M v) (n := 8) (zors_in _ hm4.1) (by decide) (fun k k0 k1 => ?_)
  cases e : zB (qInSt M v) k with
  | false => rfl
  | true =>
    have := (qInSt_B hI v (i := k) ⟨by omega, by omega⟩).mp ((zbit_B1 (by omega) (by omega)).mpr (by rw [Int.toNat_natCast]; exact e))
    omega
theorem qbits_cnt {u : Int} (hu : 0 ≤ u ∧ u < 256) : qbits u = qCnt u := by
  have h1 : qbits u = zsum (fun t => zbit u t) 31 := rfl
  rw [h1, zsum_cut (n := 8) (by decide) (by decide) (fun t t0 t1 => by rw [zbit_B u (by omega) (by omega), zB_lt (n := 8) hu.1 (by omega) hu.2 (by omega)]; rfl)]
  unfold qCnt
  exact zsum_congr (fun t t0 t1 => zbit_B u t0 (by omega))
/-- a set that can be used up in k hours -/
def qVal (M : Int → Int) (k u : Int) : Prop := (0 ≤ u ∧ u < 256) ∧ zand u (zxor (qInSt M 0) (-1)) = 0 ∧ qbits u ≤ k
theorem zand_0 {a c : Int} : zand a (zxor c (-1)) = 0 ↔ ∀ i, 0 ≤ i → i < 32 → zbit a i = 1 → zbit c i = 1 := by
  constructor
  · intro h i i0 i1 hi
    refine Classical.byContradiction (fun z => ?_)
    have h1 : zbit (zand a (zxor c (-1))) i = 1 := (zbit_and ⟨i0, by omega⟩).mpr ⟨hi, (zbit_not ⟨i0, by omega⟩).mpr z⟩
    rw [h] at h1
    have h2 : zbit 0 i = 0 := by rw [zbit_B 0 i0 (by omega), zB_0]; rfl
    omega
  · intro h
    refine zB_ext (zand_in _ _) (by decide) (fun k k1 => ?_)
    rw [zB_0]
    cases e : zB (zand a (zxor c (-1))) k with
    | false => rfl
    | true =>
      have h1 := (zbit_and (a := a) (c := zxor c (-1)) (p := k) ⟨by omega, by omega⟩).mp ((zbit_B1 (by omega) (by omega)).mpr (by rw [Int.toNat_natCast]; exact e))
      have h2 := (zbit_not (a := c) (p := k) ⟨by omega, by omega⟩).mp h1.2
      exact absurd (h k (by omega) (by omega) h1.1) h2
theorem zbit_set {u p i : Int} (hp : 0 ≤ p ∧ p < 32) (hi : 0 ≤ i ∧ i < 32) : zbit (zor u (zshl 1 p)) i = 1 ↔ zbit u i = 1 ∨ i = p := by
  rw [zbit_or hi, zbit_B1 (s := zshl 1 p) hi.1 hi.2, zB_shl1 hp.1 hp.2 (by omega), decide_eq_true_iff, Int.toNat_of_nonneg hi.1]
theorem qVal.up {M : Int → Int} {k u : Int} (h : qVal M k u) : qVal M (k + 1) u := ⟨h.1, h.2.1, by have := h.2.2; omega⟩
theorem qVal.set {M : Int → Int} (hI : zInv M) {k u i : Int} (h : qVal M k u) (hi : 0 ≤ i ∧ i < M 4) (hs : M (74 + 5 * i + 4) = 0) : qVal M (k + 1) (zor u (zshl 1 i)) := by
  have hm4 := hI.m4
  have h256 := zor_256 h.1 (k := i) ⟨hi.1, by omega⟩
  refine ⟨h256, ?_, ?_⟩
  · rw [zand_0]
    intro j j0 j1 hj
    rcases (zbit_set ⟨hi.1, by omega⟩ ⟨j0, j1⟩).mp hj with q | q
    · exact zand_0.mp h.2.1 j j0 j1 q
    · rw [q]; exact (qInSt_B hI 0 ⟨hi.1, by omega⟩).mpr ⟨hi.2, hs⟩
  · rw [qbits_cnt h256]
    have := qCnt_or (set := u) (k := i) ⟨hi.1, by omega⟩
    have := qbits_cnt h.1
    have := h.2.2
    omega
def PlR (σ : zMem) (M : Int → Int) : Prop := (σ 310 2 = qInSt M 0) ∧ (σ 310 3 = 12 - M 6) ∧ (∀ k i, 0 ≤ k → k < 12 - M 6 → 0 ≤ i → i < M 4 → σ 312 (k * 8 + i) = qBring M i (M 6 + k))
theorem PlR.wa {σ : zMem} {M : Int → Int} (h : PlR σ M) : σ 310 2 = qInSt M 0 := h.1
theorem PlR.hl {σ : zMem} {M : Int → Int} (h : PlR σ M) : σ 310 3 = 12 - M 6 := h.2.1
theorem PlR.ga {σ : zMem} {M : Int → Int} (h : PlR σ M) : ∀ k i, 0 ≤ k → k < 12 - M 6 → 0 ≤ i → i < M 4 → σ 312 (k * 8 + i) = qBring M i (M 6 + k) := h.2.2
def PlM (σ : zMem) (M : Int → Int) (k0 : Int) : Prop := ∀ k u, k0 ≤ k → k ≤ 12 - M 6 → qVal M k u → σ 311 (k * 256 + u) = qTab M (M 6 + k) u
theorem c_X7_isFree {G : zG} {lay : zLay} {σ C0 : zMem} {nx x : Int} (hT : TopL lay x) {i u : Int} {M : Int → Int} (hR : PlR σ M) (hi : 0 ≤ i ∧ i < 8) : zMM G 2 KX7_isFree [zP (x + 310), zI i, zI u] lay (tC x σ C0) nx (0, 0) (zR (some (zI (zbi (zbit (qInSt M 0) i = 1 ∧ ¬ zbit u i = 1)))) lay (tC x (σ) (C0)) nx) := by
  refine z_met' (L := [zP (x + 310), zI i, zI u]) gX7_isFree.1 rfl rfl (Nat.le_of_ble_eq_true rfl) rfl ?_
  have hA := PlAt
  have hx := hT.1
  have hne : x + 310 ≠ -1 := by omega
  have z1 := zbit_01 (qInSt M 0) i
  have z2 := zbit_01 u i
  refine z_al0 eX7_isFree_0 hne ?_
  first | refine z_tg0 (j := 2) lX7_30 eX7_isFree_1 rfl hT hA (by decide) rfl rfl rfl ?_ | refine z_tg (j := 2) lX7_30 eX7_isFree_1 rfl hT hA ⟨by decide, by decide⟩ rfl rfl rfl ?_
  rw [hR.wa]
  refine z_il1 eX7_isFree_4 ?_
  refine z_N2 eX7_isFree_5 vX7_55 rfl (Nat.le_of_ble_eq_true rfl) (Nat.le_of_ble_eq_true rfl) (c_X11_bitOf hT ⟨by omega, by omega⟩) ?_
  refine z_iconst eX7_isFree_8 ?_
  refine z_icmp_ne (tgt := 24) eX7_isFree_9 rfl ⟨⟨by omega, by omega⟩, ⟨by omega, by omega⟩⟩ (fun h9 => ?_) (fun h9 => ?_)
  · refine z_iconst eX7_isFree_24 ?_
    refine z_zreturn eX7_isFree_25 rfl (by first | exact Or.inl rfl | exact Or.inr rfl | exact zbi_01 _ | assumption | omega) ?_
    first | exact ⟨rfl, rfl, rfl, rfl⟩ | exact zRb1 (by omega) | exact zRb0 (by omega) | exact zRe (by omega)
  · refine z_il2 eX7_isFree_12 ?_
    refine z_il1 eX7_isFree_13 ?_
    refine z_N2 eX7_isFree_14 vX7_55 rfl (Nat.le_of_ble_eq_true rfl) (Nat.le_of_ble_eq_true rfl) (c_X11_bitOf hT ⟨by omega, by omega⟩) ?_
    refine z_if_ne (tgt := 24) eX7_isFree_17 rfl ⟨by omega, by omega⟩ (fun h17 => ?_) (fun h17 => ?_)
    · refine z_iconst eX7_isFree_24 ?_
      refine z_zreturn eX7_isFree_25 rfl (by first | exact Or.inl rfl | exact Or.inr rfl | exact zbi_01 _ | assumption | omega) ?_
      first | exact ⟨rfl, rfl, rfl, rfl⟩ | exact zRb1 (by omega) | exact zRb0 (by omega) | exact zRe (by omega)
    · refine z_iconst eX7_isFree_20 ?_
      refine z_goto eX7_isFree_21 (tgt := 25) rfl ?_
      refine z_zreturn eX7_isFree_25 rfl (by first | exact Or.inl rfl | exact Or.inr rfl | exact zbi_01 _ | assumption | omega) ?_
      first | exact ⟨rfl, rfl, rfl, rfl⟩ | exact zRb1 (by omega) | exact zRb0 (by omega) | exact zRe (by omega)
theorem c_X7_withMotion {G : zG} {lay : zLay} {σ C0 : zMem} {nx x : Int} (hT : TopL lay x) {k u i : Int} {M : Int → Int} (hR : PlR σ M) (hP : PlM σ M (k + 1)) (hI : zInv M) (hk : 0 ≤ k ∧ k < 12 - M 6) (hi : 0 ≤ i ∧ i < M 4) (hv : qVal M (k + 1) (zor u (zshl 1 i))) : zMM G 1 KX7_withMotion [zP (x + 310), zI k, zI u, zI i] lay (tC x σ C0) nx (0, 0) (zR (some (zI (qBring M i (M 6 + k) + qTab M (M 6 + k + 1) (zor u (zshl 1 i))))) lay (tC x (σ) (C0)) nx) := by
  refine z_met' (L := [zP (x + 310), zI k, zI u, zI i]) gX7_withMotion.1 rfl rfl (Nat.le_of_ble_eq_true rfl) rfl ?_
  have hA := PlAt
  have hx := hT.1
  have hne : x + 310 ≠ -1 := by omega
  have hm4 := hI.m4
  have h6 := hI.s 6 rfl (by omega)
  have hv1 := hv.1
  refine z_al0 eX7_withMotion_0 hne ?_
  first | refine z_ta0 lX7_15 eX7_withMotion_1 rfl hT hA (by decide) rfl rfl ?_ | refine z_ta lX7_15 eX7_withMotion_1 rfl hT hA ⟨by decide, by decide⟩ rfl rfl ?_
  refine z_il1 eX7_withMotion_4 ?_
  refine z_bipush eX7_withMotion_5 (by decide) ?_
  refine z_imul eX7_withMotion_7 ?_
  refine z_il3 eX7_withMotion_8 ?_
  refine z_iadd eX7_withMotion_9 ?_
  refine z_tl eX7_withMotion_10 hT hA ⟨by decide, by decide⟩ rfl rfl ⟨by omega, by omega⟩ ?_
  rw [show σ (310 + 2) (k * 8 + i) = σ 312 (k * 8 + i) from rfl, hR.ga k i hk.1 hk.2 hi.1 hi.2]
  refine z_al0 eX7_withMotion_11 hne ?_
  first | refine z_ta0 lX7_9 eX7_withMotion_12 rfl hT hA (by decide) rfl rfl ?_ | refine z_ta lX7_9 eX7_withMotion_12 rfl hT hA ⟨by decide, by decide⟩ rfl rfl ?_
  refine z_il1 eX7_withMotion_15 ?_
  refine z_iconst eX7_withMotion_16 ?_
  refine z_iadd eX7_withMotion_17 ?_
  refine z_sipush eX7_withMotion_18 (by decide) ?_
  refine z_imul eX7_withMotion_21 ?_
  refine z_il2 eX7_withMotion_22 ?_
  refine z_iconst eX7_withMotion_23 ?_
  refine z_il3 eX7_withMotion_24 ?_
  refine z_ishl eX7_withMotion_25 ?_
  refine z_ior eX7_withMotion_26 ?_
  refine z_iadd eX7_withMotion_27 ?_
  refine z_tl eX7_withMotion_28 hT hA ⟨by decide, by decide⟩ rfl rfl ⟨by omega, by omega⟩ ?_
  rw [show σ (310 + 1) ((k + 1) * 256 + zor u (zshl 1 i)) = σ 311 ((k + 1) * 256 + zor u (zshl 1 i)) from rfl, hP (k + 1) _ (by omega) (by omega) hv, show M 6 + (k + 1) = M 6 + k + 1 by omega]
  refine z_iadd eX7_withMotion_29 ?_
  refine z_ireturn eX7_withMotion_30 rfl ?_
  first | exact ⟨rfl, rfl, rfl, rfl⟩ | exact zRb1 (by omega) | exact zRb0 (by omega) | exact zRe (by omega)
