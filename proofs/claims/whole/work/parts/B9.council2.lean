/-! A council's votes and facts. -/
theorem qSeat_bd {M : Int → Int} (hI : zInv M) (set : Int) {n : Int} (hn : 0 ≤ n ∧ n ≤ 7) : 0 ≤ qSeat M set n ∧ qSeat M set n ≤ 20 * n := zsum_bnd hn.1 (fun t t0 t1 => by
  have := hI.U (p := t) ⟨t0, by omega⟩
  rcases zbit_01 set t with e | e <;> rw [e] <;> omega)
def qVoteO (M : Int → Int) (a s O Fo : Int) : Int :=
  if qSeat M (zand O Fo) (M 3) + (if a = 1 then M 10 else 0) = qSeat M (zand O (zxor Fo (-1))) (M 3) + (if s = 2 ∧ a = 0 then M 10 else 0) then (if a = 1 then 1 else 2) else if qSeat M (zand O (zxor Fo (-1))) (M 3) + (if s = 2 ∧ a = 0 then M 10 else 0) < qSeat M (zand O Fo) (M 3) + (if a = 1 then M 10 else 0) then 1 else 2
theorem c_X1_byVotes {G : zG} {lay : zLay} {σ C0 : zMem} {nx x b : Int} (hT : TopL lay x) {a s O Fo : Int} {M : Int → Int} (hA : CoAt b) (hN : CoN σ b M) (hI : zInv M) (ha : a = 0 ∨ a = 1) (hs : 0 ≤ s ∧ s < 5) : zMM G 3 KX1_byVotes [zP (x + b), zI a, zI s, zI O, zI Fo] lay (tC x σ C0) nx (0, 0) (zR (some (zI (qVoteO M a s O Fo))) lay (tC x (σ) (C0)) nx) := by
  refine z_met' (L := [zP (x + b), zI a, zI s, zI O, zI Fo, zU, zU]) gX1_byVotes.1 rfl rfl (Nat.le_of_ble_eq_true rfl) rfl ?_
  have hb0 := hA.b0 (by decide)
  have hne : x + b ≠ -1 := by have := hT.1; omega
  have hm3 := hI.m3
  have h10 := hI.s 10 rfl (by omega)
  have s1 := qSeat_bd hI (zand O Fo) hm3
  have s2 := qSeat_bd hI (zand O (zxor Fo (-1))) hm3
  have w53 : ∀ u v : Int, u = qSeat M (zand O Fo) (M 3) + (if a = 1 then M 10 else 0) → v = qSeat M (zand O (zxor Fo (-1))) (M 3) + (if s = 2 ∧ a = 0 then M 10 else 0) → zW G KX1_byVotes 3 (zR (some (zI (qVoteO M a s O Fo))) lay (tC x σ C0) nx) 53 [zP (x + b), zI a, zI s, zI O, zI Fo, zI u, zI v] [] lay (tC x σ C0) nx (0, 0) := by
    intro u v hu hv
    have hub : 0 ≤ u ∧ u ≤ 1000 := by rw [hu]; split <;> omega
    have hvb : 0 ≤ v ∧ v ≤ 1000 := by rw [hv]; split <;> omega
    unfold qVoteO
    rw [← hu, ← hv]
    refine z_il5 eX1_byVotes_53 ?_
    refine z_il6 eX1_byVotes_55 ?_
    refine z_icmp_ne (tgt := 70) eX1_byVotes_57 rfl ⟨⟨by omega, by omega⟩, ⟨by omega, by omega⟩⟩ (fun h57 => ?_) (fun h57 => ?_)
    · refine z_il5 eX1_byVotes_70 ?_
      refine z_il6 eX1_byVotes_72 ?_
      refine z_icmp_le (tgt := 81) eX1_byVotes_74 rfl ⟨⟨by omega, by omega⟩, ⟨by omega, by omega⟩⟩ (fun h74 => ?_) (fun h74 => ?_)
      · refine z_iconst eX1_byVotes_81 ?_
        refine z_ireturn eX1_byVotes_82 rfl ?_
        first | (rw [if_pos (by omega), if_pos (by omega)]; exact ⟨rfl, rfl, rfl, rfl⟩) | (rw [if_pos (by omega), if_neg (by omega)]; exact ⟨rfl, rfl, rfl, rfl⟩) | (rw [if_neg (by omega), if_pos (by omega)]; exact ⟨rfl, rfl, rfl, rfl⟩) | (rw [if_neg (by omega), if_neg (by omega)]; exact ⟨rfl, rfl, rfl, rfl⟩) | fail
      · refine z_iconst eX1_byVotes_77 ?_
        refine z_goto eX1_byVotes_78 (tgt := 82) rfl ?_
        refine z_ireturn eX1_byVotes_82 rfl ?_
        first | (rw [if_pos (by omega), if_pos (by omega)]; exact ⟨rfl, rfl, rfl, rfl⟩) | (rw [if_pos (by omega), if_neg (by omega)]; exact ⟨rfl, rfl, rfl, rfl⟩) | (rw [if_neg (by omega), if_pos (by omega)]; exact ⟨rfl, rfl, rfl, rfl⟩) | (rw [if_neg (by omega), if_neg (by omega)]; exact ⟨rfl, rfl, rfl, rfl⟩) | fail
    · refine z_il1 eX1_byVotes_60 ?_
      refine z_if_eq (tgt := 68) eX1_byVotes_61 rfl ⟨by omega, by omega⟩ (fun h61 => ?_) (fun h61 => ?_)
      · refine z_iconst eX1_byVotes_68 ?_
        refine z_ireturn eX1_byVotes_69 rfl ?_
        first | (rw [if_pos (by omega), if_pos (by omega)]; exact ⟨rfl, rfl, rfl, rfl⟩) | (rw [if_pos (by omega), if_neg (by omega)]; exact ⟨rfl, rfl, rfl, rfl⟩) | (rw [if_neg (by omega), if_pos (by omega)]; exact ⟨rfl, rfl, rfl, rfl⟩) | (rw [if_neg (by omega), if_neg (by omega)]; exact ⟨rfl, rfl, rfl, rfl⟩) | fail
      · refine z_iconst eX1_byVotes_64 ?_
        refine z_goto eX1_byVotes_65 (tgt := 69) rfl ?_
        refine z_ireturn eX1_byVotes_69 rfl ?_
        first | (rw [if_pos (by omega), if_pos (by omega)]; exact ⟨rfl, rfl, rfl, rfl⟩) | (rw [if_pos (by omega), if_neg (by omega)]; exact ⟨rfl, rfl, rfl, rfl⟩) | (rw [if_neg (by omega), if_pos (by omega)]; exact ⟨rfl, rfl, rfl, rfl⟩) | (rw [if_neg (by omega), if_neg (by omega)]; exact ⟨rfl, rfl, rfl, rfl⟩) | fail
  have w23 : ∀ u : Int, u = qSeat M (zand O Fo) (M 3) + (if a = 1 then M 10 else 0) → zW G KX1_byVotes 3 (zR (some (zI (qVoteO M a s O Fo))) lay (tC x σ C0) nx) 23 [zP (x + b), zI a, zI s, zI O, zI Fo, zI u, zU] [] lay (tC x σ C0) nx (0, 0) := by
    intro u hu
    refine z_al0 eX1_byVotes_23 hne ?_
    refine z_il3 eX1_byVotes_24 ?_
    refine z_il4 eX1_byVotes_25 ?_
    refine z_iconst eX1_byVotes_27 ?_
    refine z_ixor eX1_byVotes_28 ?_
    refine z_iand eX1_byVotes_29 ?_
    refine z_V1 eX1_byVotes_30 vX1_105 rfl rfl (Nat.le_of_ble_eq_true rfl) (Nat.le_of_ble_eq_true rfl) ((hA).L0 hT (by decide)) (c_X1_seatsOf hT hA hN hI) ?_
    refine z_il2 eX1_byVotes_33 ?_
    refine z_iconst eX1_byVotes_34 ?_
    refine z_icmp_ne (tgt := 49) eX1_byVotes_35 rfl ⟨⟨by omega, by omega⟩, ⟨by omega, by omega⟩⟩ (fun h35 => ?_) (fun h35 => ?_)
    · refine z_iconst eX1_byVotes_49 ?_
      refine z_iadd eX1_byVotes_50 ?_
      refine z_is6 eX1_byVotes_51 (Nat.ne_of_beq_eq_false rfl) ?_
      first | exact w53 _ _ hu (by rw [if_pos (by omega)]) | exact w53 _ _ hu (by rw [if_neg (by omega)]) | fail
    · refine z_il1 eX1_byVotes_38 ?_
      refine z_if_ne (tgt := 49) eX1_byVotes_39 rfl ⟨by omega, by omega⟩ (fun h39 => ?_) (fun h39 => ?_)
      · refine z_iconst eX1_byVotes_49 ?_
        refine z_iadd eX1_byVotes_50 ?_
        refine z_is6 eX1_byVotes_51 (Nat.ne_of_beq_eq_false rfl) ?_
        first | exact w53 _ _ hu (by rw [if_pos (by omega)]) | exact w53 _ _ hu (by rw [if_neg (by omega)]) | fail
      · refine z_al0 eX1_byVotes_42 hne ?_
        first | refine z_tg0 (j := 9) lX1_34 eX1_byVotes_43 rfl hT hA (by decide) rfl rfl rfl ?_ | refine z_tg (j := 9) lX1_34 eX1_byVotes_43 rfl hT hA ⟨by decide, by decide⟩ rfl rfl rfl ?_
        rw [hN.n10]
        refine z_goto eX1_byVotes_46 (tgt := 50) rfl ?_
        refine z_iadd eX1_byVotes_50 ?_
        refine z_is6 eX1_byVotes_51 (Nat.ne_of_beq_eq_false rfl) ?_
        first | exact w53 _ _ hu (by rw [if_pos (by omega)]) | exact w53 _ _ hu (by rw [if_neg (by omega)]) | fail
  refine z_al0 eX1_byVotes_0 hne ?_
  refine z_il3 eX1_byVotes_1 ?_
  refine z_il4 eX1_byVotes_2 ?_
  refine z_iand eX1_byVotes_4 ?_
  refine z_V1 eX1_byVotes_5 vX1_105 rfl rfl (Nat.le_of_ble_eq_true rfl) (Nat.le_of_ble_eq_true rfl) ((hA).L0 hT (by decide)) (c_X1_seatsOf hT hA hN hI) ?_
  refine z_il1 eX1_byVotes_8 ?_
  refine z_if_eq (tgt := 19) eX1_byVotes_9 rfl ⟨by omega, by omega⟩ (fun h9 => ?_) (fun h9 => ?_)
  · refine z_iconst eX1_byVotes_19 ?_
    refine z_iadd eX1_byVotes_20 ?_
    refine z_is5 eX1_byVotes_21 (Nat.ne_of_beq_eq_false rfl) ?_
    first | exact w23 _ (by rw [if_pos (by omega)]) | exact w23 _ (by rw [if_neg (by omega)]) | fail
  · refine z_al0 eX1_byVotes_12 hne ?_
    first | refine z_tg0 (j := 9) lX1_34 eX1_byVotes_13 rfl hT hA (by decide) rfl rfl rfl ?_ | refine z_tg (j := 9) lX1_34 eX1_byVotes_13 rfl hT hA ⟨by decide, by decide⟩ rfl rfl rfl ?_
    rw [hN.n10]
    refine z_goto eX1_byVotes_16 (tgt := 20) rfl ?_
    refine z_iadd eX1_byVotes_20 ?_
    refine z_is5 eX1_byVotes_21 (Nat.ne_of_beq_eq_false rfl) ?_
    first | exact w23 _ (by rw [if_pos (by omega)]) | exact w23 _ (by rw [if_neg (by omega)]) | fail
theorem qHats_B {M : Int → Int} (hI : zInv M) {p : Int} (hp : 0 ≤ p ∧ p < M 3) : zbit (qHats M) p = M (46 + 4 * p + 2) := by
  have hm3 := hI.m3
  have h01 : ∀ q, 0 ≤ q → q < M 3 → M (46 + 4 * q + 2) = 0 ∨ M (46 + 4 * q + 2) = 1 := fun q q0 q1 => by have := (hI.U (p := q) ⟨q0, by omega⟩); omega
  have e : zbit (qHats M) p = 1 ↔ M (46 + 4 * p + 2) = 1 := by
    rw [zbit_B1 hp.1 (by omega)]
    unfold qHats
    rw [zB_zors _ hm3.1]
    constructor
    · rintro ⟨t, ⟨t0, t1⟩, h⟩
      have := (zB_shlb (h01 t t0 t1) t0 (by omega) (by omega)).mp h
      rw [Int.toNat_of_nonneg hp.1] at this
      rw [this.2]; exact this.1
    · intro h
      exact ⟨p, hp, (zB_shlb (h01 p hp.1 hp.2) hp.1 (by omega) (by omega)).mpr ⟨h, Int.toNat_of_nonneg hp.1⟩⟩
  have := h01 p hp.1 hp.2
  have := zbit_01 (qHats M) p
  omega
noncomputable def qFa (M : Int → Int) (p s k h : Int) : Int → Int := fun j => if j = 7 then qHat M p else if j = 8 then zbi (1 < s) else if j = 9 then qMov M p k else qFacts M p s k h j
