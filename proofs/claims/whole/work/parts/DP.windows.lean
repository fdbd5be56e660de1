/-! Windows, the best paper, a shower, haste, posts. -/
theorem qPlaces_B {M : Int → Int} (hI : zInv M) {n i : Int} (hn : 0 ≤ n ∧ n ≤ M 3) (hi : 0 ≤ i ∧ i < 32) : zbit (qPlaces M n) i = 1 ↔ ∃ p, (0 ≤ p ∧ p < n) ∧ M (46 + 4 * p + 0) = i := by
  have hm3 := hI.m3
  rw [zbit_B1 hi.1 hi.2]
  unfold qPlaces
  rw [zB_zors _ hn.1]
  constructor
  · rintro ⟨p, hp, h⟩
    have hU := hI.U (p := p) ⟨hp.1, by omega⟩
    rw [zB_shl1 hU.1.1 (by omega) (by omega), decide_eq_true_iff, Int.toNat_of_nonneg hi.1] at h
    exact ⟨p, hp, h.symm⟩
  · rintro ⟨p, hp, h⟩
    have hU := hI.U (p := p) ⟨hp.1, by omega⟩
    exact ⟨p, hp, by rw [zB_shl1 hU.1.1 (by omega) (by omega), decide_eq_true_iff, Int.toNat_of_nonneg hi.1]; exact h.symm⟩
theorem qSeenC_q {M : Int → Int} (hI : zInv M) (set : Int) : zand (qPlaces M (M 3)) (zxor (qSeenC M set (M 3)) (-1)) = 0 ↔ zand (qPlaces M (M 3)) (zxor (qSeen M set (M 3)) (-1)) = 0 := by
  have hm3 := hI.m3
  rw [zand_0, zand_0]
  have key : ∀ i : Int, 0 ≤ i → i < 32 → zbit (qPlaces M (M 3)) i = 1 → (zbit (qSeenC M set (M 3)) i = 1 ↔ zbit (qSeen M set (M 3)) i = 1) := by
    intro i i0 i1 h
    obtain ⟨p, hp, e⟩ := (qPlaces_B hI ⟨hm3.1, Int.le_refl _⟩ ⟨i0, i1⟩).mp h
    have hU := hI.U (p := p) ⟨hp.1, by omega⟩
    have hs := qSeen_B hI set (k := i.toNat) (by omega) (M 3).toNat (by omega)
    rw [Int.toNat_of_nonneg hm3.1] at hs
    rw [zbit_B1 i0 i1, zbit_B1 i0 i1, hs]
  exact ⟨fun h i i0 i1 hi => (key i i0 i1 hi).mp (h i i0 i1 hi), fun h i i0 i1 hi => (key i i0 i1 hi).mpr (h i i0 i1 hi)⟩
theorem qSeen_has {M : Int → Int} (hI : zInv M) {set p : Int} (hp : 0 ≤ p) (hb : zbit set p = 1) : ∀ n : Nat, n ≤ 7 → p < (n : Int) → zB (qSeen M set n) (M (46 + 4 * p + 0)).toNat = true := by
  intro n
  induction n with
  | zero => intro _ h; omega
  | succ n ih =>
    intro hn hpn
    have hU := hI.U (p := p) ⟨hp, by omega⟩
    rw [show ((n + 1 : Nat) : Int) = (n : Int) + 1 by omega, show qSeen M set ((n : Int) + 1) = if zbit set n = 1 then qSeenK (M (46 + 4 * (n : Int) + 0)) (qSeen M set n) 8 else qSeen M set n from zfold_s _ _ (by omega)]
    by_cases e : p = (n : Int)
    · rw [← e, if_pos hb]
      have h2 := zB_seenK (M (46 + 4 * p + 0)) (qSeen M set p) (k := (M (46 + 4 * p + 0)).toNat) (by omega) 8 (by decide)
      rw [show ((8 : Nat) : Int) = 8 from rfl] at h2
      rw [h2, decide_eq_true (by omega), Bool.or_true]
    · have h1 := ih (by omega) (by omega)
      split
      · have h2 := zB_seenK (M (46 + 4 * (n : Int) + 0)) (qSeen M set n) (k := (M (46 + 4 * p + 0)).toNat) (by omega) 8 (by decide)
        rw [show ((8 : Nat) : Int) = 8 from rfl] at h2
        rw [h2, h1, Bool.true_or]
      · exact h1
theorem zbit_full : ∀ m : Nat, m < 8 → ∀ p : Nat, p < m → zbit (zshl 1 (m : Nat) - 1) (p : Nat) = 1 := by decide +kernel
theorem zshl_128 : ∀ m : Nat, m < 8 → 1 ≤ zshl 1 (m : Nat) ∧ zshl 1 (m : Nat) ≤ 128 := by decide +kernel
theorem qbits_127 : ∀ u : Nat, u < 128 → qbits (u : Nat) < 8 := by decide +kernel
theorem qWin_s (M : Int → Int) {n : Int} (hn : 0 ≤ n) : qWin M (n + 1) = if (qWin M n = -1 ∨ qbits n < qbits (qWin M n)) ∧ zand (qPlaces M (M 3)) (zxor (qSeen M n (M 3)) (-1)) = 0 then n else qWin M n := by unfold qWin; rw [zfold_s _ _ hn]
theorem qWin_ne {M : Int → Int} (hI : zInv M) : qWin M (zshl 1 (M 3)) ≠ -1 := by
  have hm3 := hI.m3
  have hb := zshl_128 (M 3).toNat (by omega)
  have hf := zbit_full (M 3).toNat (by omega)
  rw [Int.toNat_of_nonneg hm3.1] at hb hf
  generalize zshl 1 (M 3) = n at hb hf ⊢
  have e := qWin_s M (n := n - 1) (by omega)
  rw [show n - 1 + 1 = n by omega] at e
  have hz : zand (qPlaces M (M 3)) (zxor (qSeen M (n - 1) (M 3)) (-1)) = 0 := by
    rw [zand_0]
    intro i i0 i1 h
    obtain ⟨p, hp, e⟩ := (qPlaces_B hI ⟨hm3.1, Int.le_refl _⟩ ⟨i0, i1⟩).mp h
    have h1 := hf p.toNat (by omega)
    rw [Int.toNat_of_nonneg hp.1] at h1
    have hs := qSeen_has hI hp.1 h1 (M 3).toNat (by omega) (by omega)
    rw [Int.toNat_of_nonneg hm3.1, e] at hs
    exact (zbit_B1 i0 i1).mpr hs
  rw [e]
  by_cases z : qWin M (n - 1) = -1
  · rw [if_pos ⟨Or.inl z, hz⟩]; omega
  · split
    · omega
    · exact z
theorem c_X11_windows {G : zG} {lay : zLay} {σ C0 : zMem} {nx x : Int} (hT : TopL lay x) {M : Int → Int} (hN : CoN σ (0 + 2) M) (hM : zOC M) : zMM G 3 KX11_windows [zP (x + 0)] lay (tC x σ C0) nx (0, 0) (zR (some (zI (qWin M (zshl 1 (M 3))))) lay (tC x (σ) (C0)) nx) := by
  refine z_met' (L := [zP (x + 0), zU, zU, zU, zU, zU]) gX11_windows.1 rfl rfl (Nat.le_of_ble_eq_true rfl) rfl ?_
  have hA := TpAt
  have hx := hT.1
  have hne : x + 0 ≠ -1 := by omega
  have hD := isCo.now
  have hm3 := hM.I.m3
  have hI := hM.I
  have hb := zshl_128 (M 3).toNat (by omega)
  rw [Int.toNat_of_nonneg hm3.1] at hb
  have hwn := qWin_ne hI
  have w43 : ∀ t : Int, 0 ≤ t → t ≤ zshl 1 (M 3) → ∀ (m b : Int) (y : zAV), m = (if qWin M t = -1 then 8 else qbits (qWin M t)) → b = (if qWin M t = -1 then 0 else qWin M t) → zW G KX11_windows 3 (zR (some (zI (qWin M (zshl 1 (M 3))))) lay (tC x σ C0) nx) 43 [zP (x + 0), zI (qPlaces M (M 3)), zI m, zI b, zI t, y] [] lay (tC x σ C0) nx (0, 0) := by
    refine z_up (zshl 1 (M 3)) ?_ ?_
    · intro m b y hm hb2
      refine z_il4 eX11_windows_43 ?_
      refine z_iconst eX11_windows_45 ?_
      refine z_al0 eX11_windows_46 hne ?_
      first | refine z_ta0 lX11_20 eX11_windows_47 rfl hT hA (by decide) rfl rfl ?_ | refine z_ta lX11_20 eX11_windows_47 rfl hT hA ⟨by decide, by decide⟩ rfl rfl ?_
      first | refine z_tg0 (j := 1) lX11_321 eX11_windows_50 rfl hT hD (by decide) rfl rfl rfl ?_ | refine z_tg (j := 1) lX11_321 eX11_windows_50 rfl hT hD ⟨by decide, by decide⟩ rfl rfl rfl ?_
      rw [hN.n3]
      refine z_ishl eX11_windows_53 ?_
      refine z_icmp_ge (tgt := 98) eX11_windows_54 rfl ⟨⟨by omega, by omega⟩, ⟨by omega, by omega⟩⟩ (fun h54 => ?_) (fun h54 => (by exfalso; omega))
      refine z_il3 eX11_windows_98 ?_
      refine z_ireturn eX11_windows_99 rfl ?_
      rw [hb2, if_neg hwn]; exact ⟨rfl, rfl, rfl, rfl⟩
    · intro t t0 t1 ih m b y hm hb2
      have hq := qbits_127 t.toNat (by omega)
      rw [Int.toNat_of_nonneg t0] at hq
      have hq0 := qbits_bd t
      have hw := qWin_bd M t0
      have hqw := qbits_bd (qWin M t)
      have hc := qSeenC_q hI t
      rw [qWin_s M t0] at ih
      generalize qWin M t = w at ih hm hb2 hw hqw ⊢
      generalize hz : zand (qPlaces M (M 3)) (zxor (qSeenC M t (M 3)) (-1)) = z at hc ⊢
      generalize zand (qPlaces M (M 3)) (zxor (qSeen M t (M 3)) (-1)) = z2 at hc ih ⊢
      have hi1 : ((w = -1 ∨ qbits t < qbits w) ∧ z2 = 0) → (if (w = -1 ∨ qbits t < qbits w) ∧ z2 = 0 then t else w) = t := fun z => if_pos z
      have hi0 : ¬ ((w = -1 ∨ qbits t < qbits w) ∧ z2 = 0) → (if (w = -1 ∨ qbits t < qbits w) ∧ z2 = 0 then t else w) = w := fun z => if_neg z
      refine z_il4 eX11_windows_43 ?_
      refine z_iconst eX11_windows_45 ?_
      refine z_al0 eX11_windows_46 hne ?_
      first | refine z_ta0 lX11_20 eX11_windows_47 rfl hT hA (by decide) rfl rfl ?_ | refine z_ta lX11_20 eX11_windows_47 rfl hT hA ⟨by decide, by decide⟩ rfl rfl ?_
      first | refine z_tg0 (j := 1) lX11_321 eX11_windows_50 rfl hT hD (by decide) rfl rfl rfl ?_ | refine z_tg (j := 1) lX11_321 eX11_windows_50 rfl hT hD ⟨by decide, by decide⟩ rfl rfl rfl ?_
      rw [hN.n3]
      refine z_ishl eX11_windows_53 ?_
      refine z_icmp_ge (tgt := 98) eX11_windows_54 rfl ⟨⟨by omega, by omega⟩, ⟨by omega, by omega⟩⟩ (fun h54 => (by exfalso; omega)) (fun h54 => ?_)
      refine z_il4 eX11_windows_57 ?_
      refine z_S1 eX11_windows_59 vX11_276 rfl rfl (Nat.le_of_ble_eq_true rfl) (Nat.le_of_ble_eq_true rfl) (c_J6_bitCount_0f7a4 ⟨t0, by omega⟩) ?_
      refine z_is5 eX11_windows_62 (Nat.ne_of_beq_eq_false rfl) ?_
      refine z_il5 eX11_windows_64 ?_
      refine z_il2 eX11_windows_66 ?_
      refine z_icmp_ge (tgt := 92) eX11_windows_67 rfl ⟨⟨by omega, by omega⟩, ⟨by omega, by omega⟩⟩ (fun h67 => ?_) (fun h67 => ?_)
      · refine z_ii4 eX11_windows_92 (Nat.ne_of_beq_eq_false rfl) ?_
        refine z_goto eX11_windows_95 (tgt := 43) rfl ?_
        first | (have e3 := h83; rw [hi1 ⟨by by_cases y : w = -1; exact Or.inl y; rw [if_neg y] at hm; exact Or.inr (by omega), hc.mp e3⟩] at ih; exact ih _ _ _ (by rw [if_neg (by omega)]) (by rw [if_neg (by omega)])) | (have e3 := h83; rw [hi0 (fun y => e3 (hc.mpr y.2))] at ih; exact ih _ _ _ hm hb2) | (rw [hi0 (fun y => by rcases y.1 with y | y; rw [if_pos y] at hm; omega; by_cases y2 : w = -1; rw [if_pos y2] at hm; omega; rw [if_neg y2] at hm; omega)] at ih; exact ih _ _ _ hm hb2) | fail
      · refine z_il1 eX11_windows_70 ?_
        refine z_al0 eX11_windows_71 hne ?_
        first | refine z_ta0 lX11_20 eX11_windows_72 rfl hT hA (by decide) rfl rfl ?_ | refine z_ta lX11_20 eX11_windows_72 rfl hT hA ⟨by decide, by decide⟩ rfl rfl ?_
        refine z_il4 eX11_windows_75 ?_
        refine z_V1 eX11_windows_77 vX11_335 rfl rfl (Nat.le_of_ble_eq_true rfl) (Nat.le_of_ble_eq_true rfl) ((hD).L0 hT (by decide)) (c_X1_seenBy hT hD hN hI) ?_
        refine z_iconst eX11_windows_80 ?_
        refine z_ixor eX11_windows_81 ?_
        refine z_iand eX11_windows_82 ?_
        rw [hz]
        refine z_if_ne (tgt := 92) eX11_windows_83 rfl (by rw [← hz]; exact zand_in _ _) (fun h83 => ?_) (fun h83 => ?_)
        · refine z_ii4 eX11_windows_92 (Nat.ne_of_beq_eq_false rfl) ?_
          refine z_goto eX11_windows_95 (tgt := 43) rfl ?_
          first | (have e3 := h83; rw [hi1 ⟨by by_cases y : w = -1; exact Or.inl y; rw [if_neg y] at hm; exact Or.inr (by omega), hc.mp e3⟩] at ih; exact ih _ _ _ (by rw [if_neg (by omega)]) (by rw [if_neg (by omega)])) | (have e3 := h83; rw [hi0 (fun y => e3 (hc.mpr y.2))] at ih; exact ih _ _ _ hm hb2) | (rw [hi0 (fun y => by rcases y.1 with y | y; rw [if_pos y] at hm; omega; by_cases y2 : w = -1; rw [if_pos y2] at hm; omega; rw [if_neg y2] at hm; omega)] at ih; exact ih _ _ _ hm hb2) | fail
        · refine z_il5 eX11_windows_86 ?_
          refine z_is2 eX11_windows_88 (Nat.ne_of_beq_eq_false rfl) ?_
          refine z_il4 eX11_windows_89 ?_
          refine z_is3 eX11_windows_91 (Nat.ne_of_beq_eq_false rfl) ?_
          refine z_ii4 eX11_windows_92 (Nat.ne_of_beq_eq_false rfl) ?_
          refine z_goto eX11_windows_95 (tgt := 43) rfl ?_
          first | (have e3 := h83; rw [hi1 ⟨by by_cases y : w = -1; exact Or.inl y; rw [if_neg y] at hm; exact Or.inr (by omega), hc.mp e3⟩] at ih; exact ih _ _ _ (by rw [if_neg (by omega)]) (by rw [if_neg (by omega)])) | (have e3 := h83; rw [hi0 (fun y => e3 (hc.mpr y.2))] at ih; exact ih _ _ _ hm hb2) | (rw [hi0 (fun y => by rcases y.1 with y | y; rw [if_pos y] at hm; omega; by_cases y2 : w = -1; rw [if_pos y2] at hm; omega; rw [if_neg y2] at hm; omega)] at ih; exact ih _ _ _ hm hb2) | fail
  have w4 : ∀ t : Int, 0 ≤ t → t ≤ M 3 → zW G KX11_windows 3 (zR (some (zI (qWin M (zshl 1 (M 3))))) lay (tC x σ C0) nx) 4 [zP (x + 0), zI (qPlaces M t), zI t, zU, zU, zU] [] lay (tC x σ C0) nx (0, 0) := by
    refine z_up (M 3) ?_ ?_
    · skip
      refine z_il2 eX11_windows_4 ?_
      refine z_al0 eX11_windows_5 hne ?_
      first | refine z_ta0 lX11_20 eX11_windows_6 rfl hT hA (by decide) rfl rfl ?_ | refine z_ta lX11_20 eX11_windows_6 rfl hT hA ⟨by decide, by decide⟩ rfl rfl ?_
      first | refine z_tg0 (j := 1) lX11_321 eX11_windows_9 rfl hT hD (by decide) rfl rfl rfl ?_ | refine z_tg (j := 1) lX11_321 eX11_windows_9 rfl hT hD ⟨by decide, by decide⟩ rfl rfl rfl ?_
      rw [hN.n3]
      refine z_icmp_ge (tgt := 35) eX11_windows_12 rfl ⟨⟨by omega, by omega⟩, ⟨by omega, by omega⟩⟩ (fun h12 => ?_) (fun h12 => (by exfalso; omega))
      refine z_bipush eX11_windows_35 (by decide) ?_
      refine z_is2 eX11_windows_37 (Nat.ne_of_beq_eq_false rfl) ?_
      refine z_iconst eX11_windows_38 ?_
      refine z_is3 eX11_windows_39 (Nat.ne_of_beq_eq_false rfl) ?_
      refine z_iconst eX11_windows_40 ?_
      refine z_is4 eX11_windows_41 (Nat.ne_of_beq_eq_false rfl) ?_
      exact w43 0 (by decide) (by omega) _ _ _ rfl rfl
    · intro t t0 t1 ih
      have e : qPlaces M (t + 1) = zor (qPlaces M t) (zshl 1 (M (46 + 4 * t + 0))) := zors_s _ t0
      rw [e] at ih
      refine z_il2 eX11_windows_4 ?_
      refine z_al0 eX11_windows_5 hne ?_
      first | refine z_ta0 lX11_20 eX11_windows_6 rfl hT hA (by decide) rfl rfl ?_ | refine z_ta lX11_20 eX11_windows_6 rfl hT hA ⟨by decide, by decide⟩ rfl rfl ?_
      first | refine z_tg0 (j := 1) lX11_321 eX11_windows_9 rfl hT hD (by decide) rfl rfl rfl ?_ | refine z_tg (j := 1) lX11_321 eX11_windows_9 rfl hT hD ⟨by decide, by decide⟩ rfl rfl rfl ?_
      rw [hN.n3]
      refine z_icmp_ge (tgt := 35) eX11_windows_12 rfl ⟨⟨by omega, by omega⟩, ⟨by omega, by omega⟩⟩ (fun h12 => (by exfalso; omega)) (fun h12 => ?_)
      refine z_il1 eX11_windows_15 ?_
      refine z_iconst eX11_windows_16 ?_
      refine z_al0 eX11_windows_17 hne ?_
      first | refine z_ta0 lX11_20 eX11_windows_18 rfl hT hA (by decide) rfl rfl ?_ | refine z_ta lX11_20 eX11_windows_18 rfl hT hA ⟨by decide, by decide⟩ rfl rfl ?_
      first | refine z_ta0 lX11_134 eX11_windows_21 rfl hT hD (by decide) rfl rfl ?_ | refine z_ta lX11_134 eX11_windows_21 rfl hT hD ⟨by decide, by decide⟩ rfl rfl ?_
      refine z_il2 eX11_windows_24 ?_
      refine z_tl eX11_windows_25 hT hD ⟨by decide, by decide⟩ rfl rfl ⟨by omega, by omega⟩ ?_
      rw [hN.pl t t0 t1]
      refine z_ishl eX11_windows_26 ?_
      refine z_ior eX11_windows_27 ?_
      refine z_is1 eX11_windows_28 (Nat.ne_of_beq_eq_false rfl) ?_
      refine z_ii2 eX11_windows_29 (Nat.ne_of_beq_eq_false rfl) ?_
      refine z_goto eX11_windows_32 (tgt := 4) rfl ?_
      exact ih
  refine z_iconst eX11_windows_0 ?_
  refine z_is1 eX11_windows_1 (Nat.ne_of_beq_eq_false rfl) ?_
  refine z_iconst eX11_windows_2 ?_
  refine z_is2 eX11_windows_3 (Nat.ne_of_beq_eq_false rfl) ?_
  exact w4 0 (by decide) hm3.1
theorem c_X11_best {G : zG} {lay : zLay} {σ C0 : zMem} {nx x : Int} (hT : TopL lay x) {n : Int} {M : Int → Int} (hR : CoR lay x C0 σ (0 + 2) M) (hM : zOC M) (hn : zin n) : zMM G 8 KX11_best [zP (x + 0), zI n] lay (tC x σ C0) nx (1, 6) (zGd (n = -1 ∨ 0 ≤ n ∧ n < 12) zEb lay (tC x σ C0) nx (zY' (some (zI (qBest M n))) (fun q C => zPd (0 + 2) σ C0 q C ∧ CoR lay x C q (0 + 2) M) lay nx x)) := by
  refine z_met' (L := [zP (x + 0), zI n]) gX11_best.1 rfl rfl (Nat.le_of_ble_eq_true rfl) rfl ?_
  have hA := TpAt
  have hx := hT.1
  have hne : x + 0 ≠ -1 := by omega
  have hD := isCo.now
  have h6 := hM.I.s 6 rfl (by omega)
  have hv0 : qVal M 0 0 := ⟨by decide, by rw [zand_0]; intro i i0 i1 h; rw [zbit_B 0 i0 i1, zB_0] at h; exact absurd h (by decide), by decide⟩
  unfold qBest
  refine z_il1 eX11_best_0 ?_
  refine z_iconst eX11_best_1 ?_
  refine z_icmp_eq (tgt := 9) eX11_best_2 rfl ⟨⟨by omega, by omega⟩, ⟨by omega, by omega⟩⟩ (fun h2 => ?_) (fun h2 => ?_)
  · refine z_al0 eX11_best_9 hne ?_
    first | refine z_ta0 lX11_65 eX11_best_10 rfl hT hA (by decide) rfl rfl ?_ | refine z_ta lX11_65 eX11_best_10 rfl hT hA ⟨by decide, by decide⟩ rfl rfl ?_
    refine z_al0 eX11_best_13 hne ?_
    first | refine z_ta0 lX11_20 eX11_best_14 rfl hT hA (by decide) rfl rfl ?_ | refine z_ta lX11_20 eX11_best_14 rfl hT hA ⟨by decide, by decide⟩ rfl rfl ?_
    refine z_V1vy eX11_best_17 vX11_281 rfl rfl (Nat.le_of_ble_eq_true rfl) (Nat.le_of_ble_eq_true rfl) ((PlAt).L0 hT (by decide)) (c_X7_planDay hT hD (by decide) hR hM) (fun s17 C17 hs17 => ?_)
    have hq := hs17.2.2.2 0 0 (by decide) (by omega) hv0
    have hb := qTab_bd hM.ol.1 (h := M 6) (Int.le_refl _) (by omega) 0
    refine z_il1 eX11_best_20 ?_
    refine z_iconst eX11_best_21 ?_
    refine z_icmp_ne (tgt := 39) eX11_best_22 rfl ⟨⟨by omega, by omega⟩, ⟨by omega, by omega⟩⟩ (fun h22 => ?_) (fun h22 => ?_)
    · refine z_al0 eX11_best_39 hne ?_
      first | refine z_ta0 lX11_65 eX11_best_40 rfl hT hA (by decide) rfl rfl ?_ | refine z_ta lX11_65 eX11_best_40 rfl hT hA ⟨by decide, by decide⟩ rfl rfl ?_
      refine z_il1 eX11_best_43 ?_
      refine z_al0 eX11_best_44 hne ?_
      first | refine z_ta0 lX11_20 eX11_best_45 rfl hT hA (by decide) rfl rfl ?_ | refine z_ta lX11_20 eX11_best_45 rfl hT hA ⟨by decide, by decide⟩ rfl rfl ?_
      first | refine z_ta0 lX11_194 eX11_best_48 rfl hT hD (by decide) rfl rfl ?_ | refine z_ta lX11_194 eX11_best_48 rfl hT hD ⟨by decide, by decide⟩ rfl rfl ?_
      first | refine z_tg0 (j := 1) lX11_215 eX11_best_51 rfl hT hD.we (by decide) rfl rfl rfl ?_ | refine z_tg (j := 1) lX11_215 eX11_best_51 rfl hT hD.we ⟨by decide, by decide⟩ rfl rfl rfl ?_
      rw [hs17.2.1.1.we.1.2.1]
      refine z_isub eX11_best_54 ?_
      refine z_V1 eX11_best_55 vX11_287 rfl rfl (Nat.le_of_ble_eq_true rfl) (Nat.le_of_ble_eq_true rfl) ((PlAt).L0 hT (by decide)) (c_X7_motionAt hT hs17.2.2.1 hs17.2.2.2 hM.ol.1 ⟨by omega, by omega⟩) ?_
      refine z_ireturn eX11_best_58 rfl ?_
      rw [if_neg (show ¬ n = -1 by omega)]
      by_cases z : n < M 6
      · rw [if_pos z, if_neg (show ¬ (0 ≤ n - M 6 ∧ n - M 6 < 12 - M 6) by omega)]; exact Or.inl ⟨by omega, zYe ⟨hs17.1, hs17.2.1⟩ rfl⟩
      · rw [if_neg z, if_pos (show 0 ≤ n - M 6 ∧ n - M 6 < 12 - M 6 by omega)]; exact Or.inl ⟨by omega, zYe ⟨hs17.1, hs17.2.1⟩ rfl⟩
    · refine z_al0 eX11_best_25 hne ?_
      first | refine z_ta0 lX11_65 eX11_best_26 rfl hT hA (by decide) rfl rfl ?_ | refine z_ta lX11_65 eX11_best_26 rfl hT hA ⟨by decide, by decide⟩ rfl rfl ?_
      first | refine z_ta0 lX11_284 eX11_best_29 rfl hT PlAt (by decide) rfl rfl ?_ | refine z_ta lX11_284 eX11_best_29 rfl hT PlAt ⟨by decide, by decide⟩ rfl rfl ?_
      refine z_iconst eX11_best_32 ?_
      refine z_tl eX11_best_33 hT PlAt ⟨by decide, by decide⟩ rfl rfl ⟨by omega, by omega⟩ ?_
      rw [show s17 (0 + 310 + 1) 0 = qTab M (M 6) 0 from by rw [show M 6 + 0 = M 6 by omega] at hq; exact hq]
      refine z_sipush eX11_best_34 (by decide) ?_
      refine z_idiv eX11_best_37 ⟨by omega, by omega, by decide, by decide⟩ ?_
      refine z_ireturn eX11_best_38 rfl ?_
      rw [if_pos (show n = -1 by omega)]
      exact Or.inl ⟨by omega, zYe ⟨hs17.1, hs17.2.1⟩ rfl⟩
  · refine z_il1 eX11_best_5 ?_
    refine z_ndS1 (n := 0) eX11_best_6 vX11_209 rfl rfl (Nat.le_of_ble_eq_true rfl) (Nat.le_of_ble_eq_true rfl) (c_X11_needHour hT (by assumption)) (fun hP6 => ?_) (fun hN6 => (by first | exact Or.inr ⟨(by first | assumption | exact ⟨by omega, by omega⟩ | omega), rfl, rfl, rfl, rfl⟩))
    refine z_al0 eX11_best_9 hne ?_
    first | refine z_ta0 lX11_65 eX11_best_10 rfl hT hA (by decide) rfl rfl ?_ | refine z_ta lX11_65 eX11_best_10 rfl hT hA ⟨by decide, by decide⟩ rfl rfl ?_
    refine z_al0 eX11_best_13 hne ?_
    first | refine z_ta0 lX11_20 eX11_best_14 rfl hT hA (by decide) rfl rfl ?_ | refine z_ta lX11_20 eX11_best_14 rfl hT hA ⟨by decide, by decide⟩ rfl rfl ?_
    refine z_V1vy eX11_best_17 vX11_281 rfl rfl (Nat.le_of_ble_eq_true rfl) (Nat.le_of_ble_eq_true rfl) ((PlAt).L0 hT (by decide)) (c_X7_planDay hT hD (by decide) hR hM) (fun s17 C17 hs17 => ?_)
    have hq := hs17.2.2.2 0 0 (by decide) (by omega) hv0
    have hb := qTab_bd hM.ol.1 (h := M 6) (Int.le_refl _) (by omega) 0
    refine z_il1 eX11_best_20 ?_
    refine z_iconst eX11_best_21 ?_
    refine z_icmp_ne (tgt := 39) eX11_best_22 rfl ⟨⟨by omega, by omega⟩, ⟨by omega, by omega⟩⟩ (fun h22 => ?_) (fun h22 => ?_)
    · refine z_al0 eX11_best_39 hne ?_
      first | refine z_ta0 lX11_65 eX11_best_40 rfl hT hA (by decide) rfl rfl ?_ | refine z_ta lX11_65 eX11_best_40 rfl hT hA ⟨by decide, by decide⟩ rfl rfl ?_
      refine z_il1 eX11_best_43 ?_
      refine z_al0 eX11_best_44 hne ?_
      first | refine z_ta0 lX11_20 eX11_best_45 rfl hT hA (by decide) rfl rfl ?_ | refine z_ta lX11_20 eX11_best_45 rfl hT hA ⟨by decide, by decide⟩ rfl rfl ?_
      first | refine z_ta0 lX11_194 eX11_best_48 rfl hT hD (by decide) rfl rfl ?_ | refine z_ta lX11_194 eX11_best_48 rfl hT hD ⟨by decide, by decide⟩ rfl rfl ?_
      first | refine z_tg0 (j := 1) lX11_215 eX11_best_51 rfl hT hD.we (by decide) rfl rfl rfl ?_ | refine z_tg (j := 1) lX11_215 eX11_best_51 rfl hT hD.we ⟨by decide, by decide⟩ rfl rfl rfl ?_
      rw [hs17.2.1.1.we.1.2.1]
      refine z_isub eX11_best_54 ?_
      refine z_V1 eX11_best_55 vX11_287 rfl rfl (Nat.le_of_ble_eq_true rfl) (Nat.le_of_ble_eq_true rfl) ((PlAt).L0 hT (by decide)) (c_X7_motionAt hT hs17.2.2.1 hs17.2.2.2 hM.ol.1 ⟨by omega, by omega⟩) ?_
      refine z_ireturn eX11_best_58 rfl ?_
      rw [if_neg (show ¬ n = -1 by omega)]
      by_cases z : n < M 6
      · rw [if_pos z, if_neg (show ¬ (0 ≤ n - M 6 ∧ n - M 6 < 12 - M 6) by omega)]; exact Or.inl ⟨by omega, zYe ⟨hs17.1, hs17.2.1⟩ rfl⟩
      · rw [if_neg z, if_pos (show 0 ≤ n - M 6 ∧ n - M 6 < 12 - M 6 by omega)]; exact Or.inl ⟨by omega, zYe ⟨hs17.1, hs17.2.1⟩ rfl⟩
    · refine z_al0 eX11_best_25 hne ?_
      first | refine z_ta0 lX11_65 eX11_best_26 rfl hT hA (by decide) rfl rfl ?_ | refine z_ta lX11_65 eX11_best_26 rfl hT hA ⟨by decide, by decide⟩ rfl rfl ?_
      first | refine z_ta0 lX11_284 eX11_best_29 rfl hT PlAt (by decide) rfl rfl ?_ | refine z_ta lX11_284 eX11_best_29 rfl hT PlAt ⟨by decide, by decide⟩ rfl rfl ?_
      refine z_iconst eX11_best_32 ?_
      refine z_tl eX11_best_33 hT PlAt ⟨by decide, by decide⟩ rfl rfl ⟨by omega, by omega⟩ ?_
      rw [show s17 (0 + 310 + 1) 0 = qTab M (M 6) 0 from by rw [show M 6 + 0 = M 6 by omega] at hq; exact hq]
      refine z_sipush eX11_best_34 (by decide) ?_
      refine z_idiv eX11_best_37 ⟨by omega, by omega, by decide, by decide⟩ ?_
      refine z_ireturn eX11_best_38 rfl ?_
      rw [if_pos (show n = -1 by omega)]
      exact Or.inl ⟨by omega, zYe ⟨hs17.1, hs17.2.1⟩ rfl⟩
