/-! Bits, and the motions. -/
theorem zushr_bit (s : Int) {p : Int} (h0 : 0 ≤ p) (h1 : p < 32) : zand (zushr s p) 1 = zbit s p := by
  rw [zand1_B, zB_ushr s h0 h1, zbit_B s h0 h1, Nat.add_zero]
theorem zor_0 {x : Int} (h : zin x) : zor x 0 = x := zB_ext (zor_in _ _) h (fun k _ => by rw [zB_or, zB_0, Bool.or_false])
theorem zors_in (f : Int → Int) {n : Int} (hn : 0 ≤ n) : zin (zors f n) := by
  unfold zors
  cases n.toNat with
  | zero => show zin 0; decide
  | succ m => exact zor_in _ _
theorem zbit_01 (s p : Int) : zbit s p = 0 ∨ zbit s p = 1 := by have := zand1_bd (zshr s p); unfold zbit; omega
theorem zbc_q : ∀ n : Nat, n < 256 → zbc (n : Nat) = qbits (n : Nat) := by decide +kernel
theorem c_J6_bitCount_0f7a4 {G : zG} {lay : zLay} {C : zMem} {nx n : Int} (h : 0 ≤ n ∧ n < 256) : zMM G 1 KJ6_bitCount_0f7a4 [zI n] lay C nx (0, 0) (zR (some (zI (qbits n))) lay C nx) := by
  have e := zbc_q n.toNat (by omega)
  rw [Int.toNat_of_nonneg h.1] at e
  rw [← e]
  exact m_bitCount
theorem c_X11_bitOf {G : zG} {lay : zLay} {σ C0 : zMem} {nx x : Int} (hT : TopL lay x) {s p : Int} (hp : 0 ≤ p ∧ p < 32) : zMM G 1 KX11_bitOf [zI s, zI p] lay (tC x σ C0) nx (0, 0) (zR (some (zI (zbit s p))) lay (tC x (σ) C0) nx) := by
  refine z_met' (L := [zI s, zI p]) gX11_bitOf.1 rfl rfl (Nat.le_of_ble_eq_true rfl) rfl ?_
  rw [← zushr_bit s hp.1 hp.2]
  refine z_il0 eX11_bitOf_0 ?_
  refine z_il1 eX11_bitOf_1 ?_
  refine z_iushr eX11_bitOf_2 ?_
  refine z_iconst eX11_bitOf_3 ?_
  refine z_iand eX11_bitOf_4 ?_
  refine z_ireturn eX11_bitOf_5 rfl ?_
  first | exact ⟨rfl, rfl, rfl, rfl⟩ | exact zRb1 (by omega) | exact zRb0 (by omega) | exact zRe (by omega)
def qWith (s p v : Int) : Int := if v = 0 then zand s (zxor (zshl 1 p) (-1)) else zor s (zshl 1 p)
theorem c_X11_withBit {G : zG} {lay : zLay} {σ C0 : zMem} {nx x : Int} (hT : TopL lay x) {s p v : Int} (hv : v = 0 ∨ v = 1) : zMM G 1 KX11_withBit [zI s, zI p, zI v] lay (tC x σ C0) nx (0, 0) (zR (some (zI (qWith s p v))) lay (tC x (σ) C0) nx) := by
  refine z_met' (L := [zI s, zI p, zI v]) gX11_withBit.1 rfl rfl (Nat.le_of_ble_eq_true rfl) rfl ?_
  refine z_il2 eX11_withBit_0 ?_
  refine z_if_eq (tgt := 12) eX11_withBit_1 rfl ⟨by omega, by omega⟩ (fun h1 => ?_) (fun h1 => ?_)
  · refine z_il0 eX11_withBit_12 ?_
    refine z_iconst eX11_withBit_13 ?_
    refine z_il1 eX11_withBit_14 ?_
    refine z_ishl eX11_withBit_15 ?_
    refine z_iconst eX11_withBit_16 ?_
    refine z_ixor eX11_withBit_17 ?_
    refine z_iand eX11_withBit_18 ?_
    unfold qWith
    first | rw [if_pos (by omega)] | rw [if_neg (by omega)]
    refine z_ireturn eX11_withBit_19 rfl ?_
    exact ⟨rfl, rfl, rfl, rfl⟩
  · refine z_il0 eX11_withBit_4 ?_
    refine z_iconst eX11_withBit_5 ?_
    refine z_il1 eX11_withBit_6 ?_
    refine z_ishl eX11_withBit_7 ?_
    refine z_ior eX11_withBit_8 ?_
    refine z_goto eX11_withBit_9 (tgt := 19) rfl ?_
    unfold qWith
    first | rw [if_pos (by omega)] | rw [if_neg (by omega)]
    refine z_ireturn eX11_withBit_19 rfl ?_
    exact ⟨rfl, rfl, rfl, rfl⟩
/-- the motions at b are those of the row M -/
def MoR (σ : zMem) (b : Int) (M : Int → Int) : Prop := σ b 0 = M 4 ∧ (∀ k, 0 ≤ k → k < M 4 → σ (b + 1) k = M (74 + 5 * k + 0) ∧ σ (b + 2) k = M (74 + 5 * k + 1) ∧ σ (b + 3) k = M (74 + 5 * k + 2) ∧ σ (b + 4) k = M (74 + 5 * k + 3) ∧ σ (b + 5) k = M (74 + 5 * k + 4)) ∧ ∀ h, 0 ≤ h → h < 12 → σ (b + 6) h = M (114 + h)
theorem MoR.out {σ s : zMem} {b : Int} {M : Int → Int} (h : MoR σ b M) (h0 : ∀ i, 0 ≤ i → i < 7 → s (b + i) = σ (b + i)) : MoR s b M := by
  have e0 := h0 0 (by decide) (by decide)
  rw [Int.add_zero] at e0
  unfold MoR
  rw [e0, h0 1 (by decide) (by decide), h0 2 (by decide) (by decide), h0 3 (by decide) (by decide), h0 4 (by decide) (by decide), h0 5 (by decide) (by decide), h0 6 (by decide) (by decide)]
  exact h
theorem c_X6_has {G : zG} {lay : zLay} {σ C0 : zMem} {nx x b : Int} (hT : TopL lay x) {k : Int} {M : Int → Int} (hA : MoAt b) (hW : MoR σ b M) (hm4 : 0 ≤ M 4 ∧ M 4 ≤ 8) (hk : zin k) : zMM G 1 KX6_has [zP (x + b), zI k] lay (tC x σ C0) nx (0, 0) (zR (some (zI (zbi (0 ≤ k ∧ k < M 4)))) lay (tC x (σ) C0) nx) := by
  refine z_met' (L := [zP (x + b), zI k]) gX6_has.1 rfl rfl (Nat.le_of_ble_eq_true rfl) rfl ?_
  have hb0 := hA.b0 (by decide)
  have hne : x + b ≠ -1 := by have := hT.1; omega
  unfold zin at hk
  refine z_il1 eX6_has_0 ?_
  refine z_if_lt (tgt := 16) eX6_has_1 rfl ⟨by omega, by omega⟩ (fun h1 => ?_) (fun h1 => ?_)
  · refine z_iconst eX6_has_16 ?_
    refine z_zreturn eX6_has_17 rfl (by first | exact Or.inl rfl | exact Or.inr rfl | exact zbi_01 _ | assumption | omega) ?_
    first | exact ⟨rfl, rfl, rfl, rfl⟩ | exact zRb1 (by omega) | exact zRb0 (by omega) | exact zRe (by omega)
  · refine z_il1 eX6_has_4 ?_
    refine z_al0 eX6_has_5 hne ?_
    first | refine z_tg0 (j := 0) lX6_36 eX6_has_6 rfl hT hA (by decide) rfl rfl rfl ?_ | refine z_tg (j := 0) lX6_36 eX6_has_6 rfl hT hA ⟨by decide, by decide⟩ rfl rfl rfl ?_
    rw [hW.1]
    refine z_icmp_ge (tgt := 16) eX6_has_9 rfl ⟨⟨by omega, by omega⟩, ⟨by omega, by omega⟩⟩ (fun h9 => ?_) (fun h9 => ?_)
    · refine z_iconst eX6_has_16 ?_
      refine z_zreturn eX6_has_17 rfl (by first | exact Or.inl rfl | exact Or.inr rfl | exact zbi_01 _ | assumption | omega) ?_
      first | exact ⟨rfl, rfl, rfl, rfl⟩ | exact zRb1 (by omega) | exact zRb0 (by omega) | exact zRe (by omega)
    · refine z_iconst eX6_has_12 ?_
      refine z_goto eX6_has_13 (tgt := 17) rfl ?_
      refine z_zreturn eX6_has_17 rfl (by first | exact Or.inl rfl | exact Or.inr rfl | exact zbi_01 _ | assumption | omega) ?_
      first | exact ⟨rfl, rfl, rfl, rfl⟩ | exact zRb1 (by omega) | exact zRb0 (by omega) | exact zRe (by omega)
theorem qFst_s (p : Int → Prop) (m : Nat) (k : Int) : qFst p (m + 1) k = zif (p k) k (qFst p m (k + 1)) := rfl
theorem qFrom_f {p : Int → Prop} {k n : Int} (h : k < n) (hp : ¬ p k) : qFrom p k n = qFrom p (k + 1) n := by rw [qFrom_s h, zif_f hp]
theorem qFrom_t {p : Int → Prop} {k n : Int} (h : k < n) (hp : p k) : qFrom p k n = k := by rw [qFrom_s h, zif_t hp]
noncomputable def qHourOf (M : Int → Int) (k : Int) : Int := qFrom (fun h => M (114 + h) = k) 0 12
theorem c_X6_hourOf {G : zG} {lay : zLay} {σ C0 : zMem} {nx x b : Int} (hT : TopL lay x) {k : Int} {M : Int → Int} (hA : MoAt b) (hW : MoR σ b M) (hI : zInv M) (hk : zin k) : zMM G 1 KX6_hourOf [zP (x + b), zI k] lay (tC x σ C0) nx (0, 0) (zR (some (zI (qHourOf M k))) lay (tC x (σ) C0) nx) := by
  refine z_met' (L := [zP (x + b), zI k, zU]) gX6_hourOf.1 rfl rfl (Nat.le_of_ble_eq_true rfl) rfl ?_
  have hb0 := hA.b0 (by decide)
  have hne : x + b ≠ -1 := by have := hT.1; omega
  unfold zin at hk
  have hl : ∀ t : Int, 0 ≤ t → t ≤ 12 → zW G KX6_hourOf 1 (zR (some (zI (qFrom (fun h => M (114 + h) = k) t 12))) lay (tC x σ C0) nx) 2 [zP (x + b), zI k, zI t] [] lay (tC x σ C0) nx (0, 0) := by
    refine z_up 12 ?_ ?_
    · skip
      refine z_il2 eX6_hourOf_2 ?_
      refine z_bipush eX6_hourOf_3 (by decide) ?_
      refine z_icmp_ge (tgt := 26) eX6_hourOf_5 rfl ⟨⟨by omega, by omega⟩, ⟨by omega, by omega⟩⟩ (fun h5 => ?_) (fun h5 => (by exfalso; omega))
      refine z_iconst eX6_hourOf_26 ?_
      refine z_ireturn eX6_hourOf_27 rfl ?_
      exact ⟨rfl, rfl, rfl, rfl⟩
    · intro t t0 t1 ih
      have hp := hI.P8 (t := t) ⟨t0, t1⟩
      refine z_il2 eX6_hourOf_2 ?_
      refine z_bipush eX6_hourOf_3 (by decide) ?_
      refine z_icmp_ge (tgt := 26) eX6_hourOf_5 rfl ⟨⟨by omega, by omega⟩, ⟨by omega, by omega⟩⟩ (fun h5 => (by exfalso; omega)) (fun h5 => ?_)
      refine z_al0 eX6_hourOf_8 hne ?_
      first | refine z_ta0 lX6_27 eX6_hourOf_9 rfl hT hA (by decide) rfl rfl ?_ | refine z_ta lX6_27 eX6_hourOf_9 rfl hT hA ⟨by decide, by decide⟩ rfl rfl ?_
      refine z_il2 eX6_hourOf_12 ?_
      refine z_tl eX6_hourOf_13 hT hA ⟨by decide, by decide⟩ rfl rfl ⟨by omega, by omega⟩ ?_
      rw [hW.2.2 t t0 t1]
      refine z_il1 eX6_hourOf_14 ?_
      refine z_icmp_ne (tgt := 20) eX6_hourOf_15 rfl ⟨⟨by omega, by omega⟩, ⟨by omega, by omega⟩⟩ (fun h15 => ?_) (fun h15 => ?_)
      · refine z_ii2 eX6_hourOf_20 (Nat.ne_of_beq_eq_false rfl) ?_
        refine z_goto eX6_hourOf_23 (tgt := 2) rfl ?_
        rw [qFrom_f t1 (by omega)]; exact ih
      · refine z_il2 eX6_hourOf_18 ?_
        refine z_ireturn eX6_hourOf_19 rfl ?_
        rw [qFrom_t t1 (by omega)]; exact ⟨rfl, rfl, rfl, rfl⟩
  refine z_iconst eX6_hourOf_0 ?_
  refine z_is2 eX6_hourOf_1 (Nat.ne_of_beq_eq_false rfl) ?_
  exact hl 0 (by decide) (by decide)
def qPapM (M : Int → Int) (k h : Int) : Int → Int := if qstands M k 12 = -1 ∨ qstands M k 12 = h then zput M (114 + h) k else zput (zput M (114 + h) k) (114 + qstands M k 12) (-1)
/-- a motion stands at most once on the paper -/
def zPap (M : Int → Int) : Prop := ∀ h h', 0 ≤ h → h < 12 → 0 ≤ h' → h' < 12 → M (114 + h) = M (114 + h') → M (114 + h) ≠ -1 → h = h'
theorem qstands_sp (M : Int → Int) (k : Int) : ∀ m : Nat, (qstands M k m = -1 ∧ ∀ i, 0 ≤ i → i < (m : Int) → M (114 + i) ≠ k) ∨ (0 ≤ qstands M k m ∧ qstands M k m < m ∧ M (114 + qstands M k m) = k) := by
  intro m
  induction m with
  | zero => exact Or.inl ⟨rfl, fun i i0 i1 => by omega⟩
  | succ m ih =>
    rw [show ((m + 1 : Nat) : Int) = (m : Int) + 1 by omega, qstands_s _ _ (by omega)]
    by_cases e : M (114 + (m : Int)) = k
    · rw [if_pos e]; exact Or.inr ⟨by omega, by omega, e⟩
    · rw [if_neg e]
      rcases ih with ⟨h1, h2⟩ | ⟨h1, h2, h3⟩
      · refine Or.inl ⟨h1, fun i i0 i1 => ?_⟩
        by_cases e2 : i = (m : Int)
        · rw [e2]; exact e
        · exact h2 i i0 (by omega)
      · exact Or.inr ⟨h1, by omega, h3⟩
theorem qHourOf_q {M : Int → Int} {k : Int} (hP : zPap M) (hk : k ≠ -1) : qstands M k 12 = qHourOf M k := by
  have h1 := qstands_sp M k 12
  have h2 := qFrom_sp (p := fun h => M (114 + h) = k) (k := 0) (n := 12) (by decide)
  unfold qHourOf
  rw [show ((12 : Nat) : Int) = 12 from rfl] at h1
  rcases h1 with ⟨a1, a2⟩ | ⟨a1, a2, a3⟩ <;> rcases h2 with ⟨c1, c2⟩ | ⟨c1, c2, c3, c4⟩
  · rw [a1, c1]
  · exact absurd c3 (a2 _ c1 c2)
  · exact absurd a3 (c2 _ a1 a2)
  · exact hP _ _ a1 a2 c1 c2 (by rw [a3]; exact c3.symm) (by rw [a3]; exact hk)
theorem c_X6_putOnPaper {G : zG} {lay : zLay} {σ C0 : zMem} {nx x b : Int} (hT : TopL lay x) {k h : Int} {M : Int → Int} (hA : MoAt b) (hW : MoR σ b M) (hI : zInv M) (hP : zPap M) (hk : 0 ≤ k ∧ k < 8) (hh : 0 ≤ h ∧ h < 12) : zMM G 2 KX6_putOnPaper [zP (x + b), zI k, zI h] lay (tC x σ C0) nx (0, 0) (zZ' none (fun s => zOut (b + 6) 1 σ s ∧ MoR s b (qPapM M k h)) lay C0 nx x) := by
  refine z_met' (L := [zP (x + b), zI k, zI h, zU]) gX6_putOnPaper.1 rfl rfl (Nat.le_of_ble_eq_true rfl) rfl ?_
  have hb0 := hA.b0 (by decide)
  have hx := hT.1
  have hne : x + b ≠ -1 := by omega
  have hq := qHourOf_q hP (k := k) (by omega)
  have h2 := qFrom_sp (p := fun h => M (114 + h) = k) (k := 0) (n := 12) (by decide)
  rw [show qFrom (fun h => M (114 + h) = k) 0 12 = qHourOf M k from rfl] at h2
  have h4 : ∀ j, j < 114 → qPapM M k h j = M j := by
    intro j hj
    unfold qPapM
    rw [hq]
    split
    · exact zput_ne (by omega)
    · rw [zput_ne (by omega), zput_ne (by omega)]
  have hm4 := hI.m4
  have hc : ∀ s : zMem, zOut (b + 6) 1 σ s → (∀ i, 0 ≤ i → i < 12 → s (b + 6) i = qPapM M k h (114 + i)) → MoR s b (qPapM M k h) := by
    intro s hs hp
    refine ⟨?_, fun i i0 i1 => ?_, hp⟩
    · rw [hs b (by omega), h4 _ (by decide)]; exact hW.1
    · rw [h4 4 (by decide)] at i1
      have := hW.2.1 i i0 i1
      rw [hs (b + 1) (by omega), hs (b + 2) (by omega), hs (b + 3) (by omega), hs (b + 4) (by omega), hs (b + 5) (by omega), h4 _ (by omega), h4 _ (by omega), h4 _ (by omega), h4 _ (by omega), h4 _ (by omega)]
      exact this
  have hf1 : qHourOf M k = -1 → zOut (b + 6) 1 σ (zset σ (b + 6) h k) ∧ MoR (zset σ (b + 6) h k) b (qPapM M k h) := by
    intro h8
    refine ⟨(zOut.refl _ _ _).set ⟨by omega, by omega⟩, hc _ ((zOut.refl _ _ _).set ⟨by omega, by omega⟩) (fun i i0 i1 => ?_)⟩
    unfold qPapM
    rw [hq, if_pos (Or.inl h8), zset_at, zput_at]
    by_cases e : i = h
    · rw [if_pos ⟨rfl, e⟩, if_pos (by omega)]
    · rw [if_neg (fun z => e z.2), if_neg (by omega)]; exact hW.2.2 i i0 i1
  have hf2 : ¬ qHourOf M k = -1 → zOut (b + 6) 1 σ (zset (zset σ (b + 6) (qHourOf M k) (-1)) (b + 6) h k) ∧ MoR (zset (zset σ (b + 6) (qHourOf M k) (-1)) (b + 6) h k) b (qPapM M k h) := by
    intro h8
    refine ⟨((zOut.refl _ _ _).set ⟨by omega, by omega⟩).set ⟨by omega, by omega⟩, hc _ (((zOut.refl _ _ _).set ⟨by omega, by omega⟩).set ⟨by omega, by omega⟩) (fun i i0 i1 => ?_)⟩
    unfold qPapM
    have := hW.2.2 i i0 i1
    rw [hq, zset_at, zset_at]
    by_cases e : qHourOf M k = -1 ∨ qHourOf M k = h
    · rw [if_pos e, zput_at]
      by_cases e1 : i = h
      · rw [if_pos ⟨rfl, e1⟩, if_pos (by omega)]
      · rw [if_neg (fun z => e1 z.2), if_neg (by omega), if_neg (fun z => e1 (by rcases e with e | e <;> omega))]; exact this
    · rw [if_neg e, zput_at, zput_at]
      by_cases e1 : i = h
      · rw [if_pos ⟨rfl, e1⟩, if_neg (by omega), if_pos (by omega)]
      · rw [if_neg (fun z => e1 z.2)]
        by_cases e2 : i = qHourOf M k
        · rw [if_pos ⟨rfl, e2⟩, if_pos (by omega)]
        · rw [if_neg (fun z => e2 z.2), if_neg (by omega), if_neg (by omega)]; exact this
  refine z_al0 eX6_putOnPaper_0 hne ?_
  refine z_il1 eX6_putOnPaper_1 ?_
  refine z_V1 eX6_putOnPaper_2 vX6_46 rfl rfl (Nat.le_of_ble_eq_true rfl) (Nat.le_of_ble_eq_true rfl) ((hA).L0 hT (by decide)) (c_X6_hourOf hT hA hW hI ⟨by omega, by omega⟩) ?_
  refine z_is3 eX6_putOnPaper_5 (Nat.ne_of_beq_eq_false rfl) ?_
  refine z_il3 eX6_putOnPaper_6 ?_
  refine z_iconst eX6_putOnPaper_7 ?_
  refine z_icmp_eq (tgt := 18) eX6_putOnPaper_8 rfl ⟨⟨by omega, by omega⟩, ⟨by omega, by omega⟩⟩ (fun h8 => ?_) (fun h8 => ?_)
  · refine z_al0 eX6_putOnPaper_18 hne ?_
    first | refine z_ta0 lX6_27 eX6_putOnPaper_19 rfl hT hA (by decide) rfl rfl ?_ | refine z_ta lX6_27 eX6_putOnPaper_19 rfl hT hA ⟨by decide, by decide⟩ rfl rfl ?_
    refine z_il2 eX6_putOnPaper_22 ?_
    refine z_il1 eX6_putOnPaper_23 ?_
    refine z_ts eX6_putOnPaper_24 hT hA ⟨by decide, by decide⟩ rfl rfl ⟨by omega, by omega⟩ ?_
    refine z_return eX6_putOnPaper_25 rfl ?_
    first | exact zZv (hf1 h8) | exact zZv (hf2 h8)
  · refine z_al0 eX6_putOnPaper_11 hne ?_
    first | refine z_ta0 lX6_27 eX6_putOnPaper_12 rfl hT hA (by decide) rfl rfl ?_ | refine z_ta lX6_27 eX6_putOnPaper_12 rfl hT hA ⟨by decide, by decide⟩ rfl rfl ?_
    refine z_il3 eX6_putOnPaper_15 ?_
    refine z_iconst eX6_putOnPaper_16 ?_
    refine z_ts eX6_putOnPaper_17 hT hA ⟨by decide, by decide⟩ rfl rfl ⟨by omega, by omega⟩ ?_
    refine z_al0 eX6_putOnPaper_18 hne ?_
    first | refine z_ta0 lX6_27 eX6_putOnPaper_19 rfl hT hA (by decide) rfl rfl ?_ | refine z_ta lX6_27 eX6_putOnPaper_19 rfl hT hA ⟨by decide, by decide⟩ rfl rfl ?_
    refine z_il2 eX6_putOnPaper_22 ?_
    refine z_il1 eX6_putOnPaper_23 ?_
    refine z_ts eX6_putOnPaper_24 hT hA ⟨by decide, by decide⟩ rfl rfl ⟨by omega, by omega⟩ ?_
    refine z_return eX6_putOnPaper_25 rfl ?_
    first | exact zZv (hf1 h8) | exact zZv (hf2 h8)
