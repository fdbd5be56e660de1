/-! Sides. -/
def qGi (M : Int → Int) (i : Int) : Int := if i = 7 then M 10 else M (46 + 4 * i + 1)
/-- the sides' numbers are those of the row M -/
def SiR (σ : zMem) (M : Int → Int) : Prop := (σ 307 0 = qVoters M) ∧ (σ 307 2 = qVotesOf M (qVoters M)) ∧ (∀ i, 0 ≤ i → i < 8 → zbit (qVoters M) i = 1 → σ 309 i = qGi M i)
theorem SiR.pr {σ : zMem} {M : Int → Int} (h : SiR σ M) : σ 307 0 = qVoters M := h.1
theorem SiR.al {σ : zMem} {M : Int → Int} (h : SiR σ M) : σ 307 2 = qVotesOf M (qVoters M) := h.2.1
theorem SiR.se {σ : zMem} {M : Int → Int} (h : SiR σ M) : ∀ i, 0 ≤ i → i < 8 → zbit (qVoters M) i = 1 → σ 309 i = qGi M i := h.2.2
def qSub (M : Int → Int) (side : Int) : Prop := ∀ i, 0 ≤ i → i < 8 → zbit side i = 1 → zbit (qVoters M) i = 1
theorem zbit_128 : ∀ i : Nat, i < 8 → (zbit 128 (i : Nat) = 1 ↔ i = 7) := by decide +kernel
theorem qVoters_B (M : Int → Int) {i : Int} (hi : 0 ≤ i ∧ i < 8) : zbit (qVoters M) i = 1 ↔ zbit (qOuts M) i = 1 ∨ i = 7 := by
  unfold qVoters
  have h := zbit_128 i.toNat (by omega)
  rw [Int.toNat_of_nonneg hi.1] at h
  rw [zbit_or ⟨hi.1, by omega⟩, h]
  constructor
  · rintro (z | z)
    · exact Or.inl z
    · exact Or.inr (by omega)
  · rintro (z | z)
    · exact Or.inl z
    · exact Or.inr (by omega)
theorem qVoters_lo {M : Int → Int} (hM : zOK M) {i : Int} (h0 : M 3 ≤ i) (h1 : i < 7) (h2 : 0 ≤ i) : ¬ zbit (qVoters M) i = 1 := by
  rw [qVoters_B M ⟨h2, by omega⟩, qOuts_B hM ⟨h2, by omega⟩]
  omega
/-- the votes of a side of voters, one by one -/
def qVs (M : Int → Int) (side : Int) : Int := zsum (fun i => zbit side i * qGi M i) 8
theorem qVs_q {M : Int → Int} (hM : zOK M) {side : Int} (hs : qSub M side) : qVs M side = qVotesOf M side := by
  have hm3 := hM.1.m3
  unfold qVs
  rw [show (8 : Int) = 7 + 1 by decide, zsum_s _ (by decide), zsum_cut hm3.1 hm3.2 (fun t t0 t1 => by
    have := qVoters_lo hM t0 t1 (by omega)
    rcases zbit_01 side t with e | e
    · rw [e, Int.zero_mul]
    · exact absurd (hs t (by omega) (by omega) e) this)]
  unfold qVotesOf
  rw [Int.add_comm]
  congr 1
  · rw [show qGi M 7 = M 10 from if_pos rfl]
    rcases zbit_01 side 7 with e | e <;> rw [e] <;> simp
  · refine zsum_congr (fun p p0 p1 => ?_)
    rw [show qGi M p = M (46 + 4 * p + 1) from if_neg (by omega)]
    have h1 := zbit_and (a := side) (c := qOuts M) (p := p) ⟨p0, by omega⟩
    rcases zbit_01 side p with e | e
    · rw [if_neg (fun z => by have := (h1.mp z).1; omega), e, Int.zero_mul]
    · have := (qVoters_B M ⟨p0, by omega⟩).mp (hs p p0 (by omega) e)
      rw [if_pos (h1.mpr ⟨e, this.resolve_right (by omega)⟩), e, Int.one_mul]
theorem qSub_v (M : Int → Int) : qSub M (qVoters M) := fun _ _ _ h => h
theorem qAll_q {M : Int → Int} (hM : zOK M) : qSeat M (qOuts M) (M 3) + M 10 = qVotesOf M (qVoters M) := by
  have hm3 := hM.1.m3
  unfold qVotesOf qSeat
  rw [if_pos ((qVoters_B M ⟨by decide, by decide⟩).mpr (Or.inr rfl)), Int.add_comm]
  congr 1
  refine zsum_congr (fun p p0 p1 => ?_)
  have h1 := zbit_and (a := qVoters M) (c := qOuts M) (p := p) ⟨p0, by omega⟩
  have h2 := qVoters_B M (i := p) ⟨p0, by omega⟩
  rcases zbit_01 (qOuts M) p with e | e
  · rw [if_neg (fun z => by have := (h1.mp z).2; omega), e, Int.zero_mul]
  · rw [if_pos (h1.mpr ⟨h2.mpr (Or.inl e), e⟩), e, Int.one_mul]
theorem zsum_drop {f g : Int → Int} {p : Int} : ∀ n : Nat, 0 ≤ p → p < (n : Int) → (∀ t, 0 ≤ t → t < (n : Int) → t ≠ p → g t = f t) → g p = 0 → zsum g n = zsum f n - f p := by
  intro n
  induction n with
  | zero => intro h0 h1; omega
  | succ n ih =>
    intro h0 h1 h h2
    rw [show ((n + 1 : Nat) : Int) = (n : Int) + 1 by omega, zsum_s _ (by omega), zsum_s _ (by omega)]
    by_cases e : p = n
    · rw [← e, h2, zsum_congr (g := f) (fun t t0 t1 => h t t0 (by omega) (by omega)), e]; omega
    · rw [ih h0 (by omega) (fun t t0 t1 q => h t t0 (by omega) q) h2, h n (by omega) (by omega) (fun z => e z.symm)]; omega
theorem zbit_drop {s p i : Int} (hp : 0 ≤ p ∧ p < 32) (hi : 0 ≤ i ∧ i < 32) : zbit (zand s (zxor (zshl 1 p) (-1))) i = 1 ↔ zbit s i = 1 ∧ i ≠ p := by
  rw [zbit_and hi, zbit_not hi, zbit_B1 (s := zshl 1 p) hi.1 hi.2, zB_shl1 hp.1 hp.2 (by omega)]
  have : ((i.toNat : Int) = p) ↔ i = p := by rw [Int.toNat_of_nonneg hi.1]
  rw [decide_eq_true_iff, this]
theorem qVs_drop {M : Int → Int} {side p : Int} (hp : 0 ≤ p ∧ p < 8) (hb : zbit side p = 1) : qVs M (zand side (zxor (zshl 1 p) (-1))) = qVs M side - qGi M p := by
  unfold qVs
  have := zsum_drop (f := fun i => zbit side i * qGi M i) (g := fun i => zbit (zand side (zxor (zshl 1 p) (-1))) i * qGi M i) (p := p) 8 hp.1 hp.2 (fun t t0 t1 q => by
    have h := zbit_drop (s := side) (p := p) (i := t) ⟨hp.1, by omega⟩ ⟨t0, by omega⟩
    have a := zbit_01 (zand side (zxor (zshl 1 p) (-1))) t
    have c := zbit_01 side t
    rw [show zbit (zand side (zxor (zshl 1 p) (-1))) t = zbit side t by omega]) (by
    have h := zbit_drop (s := side) (p := p) (i := p) ⟨hp.1, by omega⟩ ⟨hp.1, by omega⟩
    have a := zbit_01 (zand side (zxor (zshl 1 p) (-1))) p
    rw [show zbit (zand side (zxor (zshl 1 p) (-1))) p = 0 by omega, Int.zero_mul])
  rw [show ((8 : Nat) : Int) = 8 from rfl] at this
  rw [this, hb, Int.one_mul]
theorem qSub_drop {M : Int → Int} {side p : Int} (hp : 0 ≤ p ∧ p < 8) (hs : qSub M side) : qSub M (zand side (zxor (zshl 1 p) (-1))) := fun i i0 i1 h => hs i i0 i1 ((zbit_drop ⟨hp.1, by omega⟩ ⟨i0, by omega⟩).mp h).1
theorem qSwings_q {M : Int → Int} (hM : zOK M) {side p : Int} (hp : 0 ≤ p ∧ p < 8) (hs : qSub M side) : qSwings M side p ↔ zbit side p = 1 ∧ qWins M side ∧ 2 * (qVs M side - qGi M p) ≤ qVotesOf M (qVoters M) := by
  unfold qSwings
  constructor
  · rintro ⟨h1, h2, h3⟩
    refine ⟨h1, h2, ?_⟩
    unfold qWins at h3
    rw [← qVs_q hM (qSub_drop hp hs), qVs_drop hp h1] at h3
    omega
  · rintro ⟨h1, h2, h3⟩
    refine ⟨h1, h2, ?_⟩
    unfold qWins
    rw [← qVs_q hM (qSub_drop hp hs), qVs_drop hp h1]
    omega
theorem qSub_z {M : Int → Int} {side : Int} (h : zand side (zxor (qVoters M) (-1)) = 0) : qSub M side := by
  intro i i0 i1 hi
  refine Classical.byContradiction (fun z => ?_)
  have h1 : zbit (zand side (zxor (qVoters M) (-1))) i = 1 := (zbit_and ⟨i0, by omega⟩).mpr ⟨hi, (zbit_not ⟨i0, by omega⟩).mpr z⟩
  rw [h] at h1
  have h2 : zbit 0 i = 0 := by rw [zbit_B 0 i0 (by omega), zB_0]; rfl
  omega
theorem qVs_bd {M : Int → Int} (hM : zOK M) {side : Int} (hs : qSub M side) : 0 ≤ qVs M side ∧ qVs M side ≤ 160 := by rw [qVs_q hM hs]; exact qVotesOf_bd hM side
theorem qGi_bd {M : Int → Int} (hM : zOK M) {i : Int} (hi : 0 ≤ i ∧ i < 8) : 0 ≤ qGi M i ∧ qGi M i ≤ 20 := by
  unfold qGi
  split
  · exact hM.1.s 10 rfl (by omega)
  · have := hM.1.U (p := i) ⟨hi.1, by omega⟩
    omega
theorem c_X8_seatsIn {G : zG} {lay : zLay} {σ C0 : zMem} {nx x : Int} (hT : TopL lay x) {side : Int} {M : Int → Int} (hR : SiR σ M) (hs : qSub M side) : zMM G 2 KX8_seatsIn [zP (x + 307), zI side] lay (tC x σ C0) nx (0, 0) (zR (some (zI (qVs M side))) lay (tC x (σ) (C0)) nx) := by
  refine z_met' (L := [zP (x + 307), zI side, zU, zU]) gX8_seatsIn.1 rfl rfl (Nat.le_of_ble_eq_true rfl) rfl ?_
  have hA := SiAt
  have hne : x + 307 ≠ -1 := by have := hT.1; omega
  have hl : ∀ t : Int, 0 ≤ t → t ≤ 8 → zW G KX8_seatsIn 2 (zR (some (zI (qVs M side))) lay (tC x σ C0) nx) 4 [zP (x + 307), zI side, zI (zsum (fun i => zbit side i * qGi M i) t), zI t] [] lay (tC x σ C0) nx (0, 0) := by
    refine z_up 8 ?_ ?_
    · skip
      refine z_il3 eX8_seatsIn_4 ?_
      refine z_bipush eX8_seatsIn_5 (by decide) ?_
      refine z_icmp_gt (tgt := 31) eX8_seatsIn_7 rfl ⟨⟨by omega, by omega⟩, ⟨by omega, by omega⟩⟩ (fun h7 => ?_) (fun h7 => (by exfalso; omega))
      refine z_il2 eX8_seatsIn_31 ?_
      refine z_ireturn eX8_seatsIn_32 rfl ?_
      first | exact ⟨rfl, rfl, rfl, rfl⟩ | exact zRb1 (by omega) | exact zRb0 (by omega) | exact zRe (by omega)
    · intro t t0 t1 ih
      have e : zbit side t * σ 309 t = zbit side t * qGi M t := by
        rcases zbit_01 side t with q | q
        · rw [q, Int.zero_mul, Int.zero_mul]
        · rw [hR.se t t0 t1 (hs t t0 t1 q)]
      rw [zsum_s _ t0] at ih
      refine z_il3 eX8_seatsIn_4 ?_
      refine z_bipush eX8_seatsIn_5 (by decide) ?_
      refine z_icmp_gt (tgt := 31) eX8_seatsIn_7 rfl ⟨⟨by omega, by omega⟩, ⟨by omega, by omega⟩⟩ (fun h7 => (by exfalso; omega)) (fun h7 => ?_)
      refine z_il2 eX8_seatsIn_10 ?_
      refine z_il1 eX8_seatsIn_11 ?_
      refine z_il3 eX8_seatsIn_12 ?_
      refine z_N2 eX8_seatsIn_13 vX8_42 rfl (Nat.le_of_ble_eq_true rfl) (Nat.le_of_ble_eq_true rfl) (c_X11_bitOf hT ⟨by omega, by omega⟩) ?_
      refine z_al0 eX8_seatsIn_16 hne ?_
      first | refine z_ta0 lX8_15 eX8_seatsIn_17 rfl hT hA (by decide) rfl rfl ?_ | refine z_ta lX8_15 eX8_seatsIn_17 rfl hT hA ⟨by decide, by decide⟩ rfl rfl ?_
      refine z_il3 eX8_seatsIn_20 ?_
      refine z_tl eX8_seatsIn_21 hT hA ⟨by decide, by decide⟩ rfl rfl ⟨by omega, by omega⟩ ?_
      refine z_imul eX8_seatsIn_22 ?_
      rw [show σ (307 + 2) t = σ 309 t from rfl, e]
      refine z_iadd eX8_seatsIn_23 ?_
      refine z_is2 eX8_seatsIn_24 (Nat.ne_of_beq_eq_false rfl) ?_
      refine z_ii3 eX8_seatsIn_25 (Nat.ne_of_beq_eq_false rfl) ?_
      refine z_goto eX8_seatsIn_28 (tgt := 4) rfl ?_
      exact ih
  refine z_iconst eX8_seatsIn_0 ?_
  refine z_is2 eX8_seatsIn_1 (Nat.ne_of_beq_eq_false rfl) ?_
  refine z_iconst eX8_seatsIn_2 ?_
  refine z_is3 eX8_seatsIn_3 (Nat.ne_of_beq_eq_false rfl) ?_
  exact hl 0 (by decide) (by decide)
