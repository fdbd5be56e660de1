/-! Shares, and places seen. -/
theorem qOuts_bit {M : Int → Int} (hM : zOK M) {p : Int} (hp : 0 ≤ p ∧ p < M 3) : zbit (qOuts M) p = M (46 + 4 * p + 3) := by
  have hm3 := hM.1.m3
  have h1 := qOuts_B hM (p := p) ⟨hp.1, by omega⟩
  have := zbit_01 (qOuts M) p
  have hU := hM.1.U (p := p) ⟨hp.1, by omega⟩
  omega
theorem qSeat_out {M : Int → Int} (hM : zOK M) : qSeat M (qOuts M) (M 3) = qSeatsOut M := zsum_congr (fun p p0 p1 => by rw [qOuts_bit hM ⟨p0, p1⟩])
def qShareOf (M : Int → Int) (p : Int) : Int := if M (46 + 4 * p + 3) = 0 ∨ qSeatsOut M = 0 then 0 else 100 * M (46 + 4 * p + 1) / qSeatsOut M
theorem c_X1_shareOf {G : zG} {lay : zLay} {σ C0 : zMem} {nx x b : Int} (hT : TopL lay x) {p : Int} {M : Int → Int} (hA : CoAt b) (hN : CoN σ b M) (hM : zOK M) (hp : 0 ≤ p ∧ p < M 3) : zMM G 3 KX1_shareOf [zP (x + b), zI p] lay (tC x σ C0) nx (0, 0) (zR (some (zI (qShareOf M p))) lay (tC x (σ) (C0)) nx) := by
  refine z_met' (L := [zP (x + b), zI p, zU]) gX1_shareOf.1 rfl rfl (Nat.le_of_ble_eq_true rfl) rfl ?_
  have hb0 := hA.b0 (by decide)
  have hne : x + b ≠ -1 := by have := hT.1; omega
  have hI := hM.1
  have hm3 := hI.m3
  have hU := hI.U (p := p) ⟨hp.1, by omega⟩
  have hs := qSeatsOut_bd hI
  unfold qShareOf
  refine z_al0 eX1_shareOf_0 hne ?_
  refine z_al0 eX1_shareOf_1 hne ?_
  first | refine z_tg0 (j := 5) lX1_78 eX1_shareOf_2 rfl hT hA (by decide) rfl rfl rfl ?_ | refine z_tg (j := 5) lX1_78 eX1_shareOf_2 rfl hT hA ⟨by decide, by decide⟩ rfl rfl rfl ?_
  rw [hN.ou]
  refine z_V1 eX1_shareOf_5 vX1_105 rfl rfl (Nat.le_of_ble_eq_true rfl) (Nat.le_of_ble_eq_true rfl) ((hA).L0 hT (by decide)) (c_X1_seatsOf hT hA hN hI) ?_
  rw [qSeat_out hM]
  refine z_is2 eX1_shareOf_8 (Nat.ne_of_beq_eq_false rfl) ?_
  refine z_il2 eX1_shareOf_9 ?_
  refine z_if_le (tgt := 24) eX1_shareOf_10 rfl ⟨by omega, by omega⟩ (fun h10 => ?_) (fun h10 => ?_)
  · refine z_iconst eX1_shareOf_24 ?_
    refine z_ireturn eX1_shareOf_25 rfl ?_
    first | (rw [if_pos (by omega)]; exact ⟨rfl, rfl, rfl, rfl⟩) | (rw [if_neg (by omega)]; exact ⟨rfl, rfl, rfl, rfl⟩) | fail
  · refine z_al0 eX1_shareOf_13 hne ?_
    first | refine z_tg0 (j := 5) lX1_78 eX1_shareOf_14 rfl hT hA (by decide) rfl rfl rfl ?_ | refine z_tg (j := 5) lX1_78 eX1_shareOf_14 rfl hT hA ⟨by decide, by decide⟩ rfl rfl rfl ?_
    rw [hN.ou]
    refine z_il1 eX1_shareOf_17 ?_
    refine z_N2 eX1_shareOf_18 vX1_101 rfl (Nat.le_of_ble_eq_true rfl) (Nat.le_of_ble_eq_true rfl) (c_X11_bitOf hT ⟨by omega, by omega⟩) ?_
    rw [qOuts_bit hM hp]
    refine z_if_ne (tgt := 26) eX1_shareOf_21 rfl ⟨by omega, by omega⟩ (fun h21 => ?_) (fun h21 => ?_)
    · refine z_bipush eX1_shareOf_26 (by decide) ?_
      refine z_al0 eX1_shareOf_28 hne ?_
      first | refine z_ta0 lX1_15 eX1_shareOf_29 rfl hT hA (by decide) rfl rfl ?_ | refine z_ta lX1_15 eX1_shareOf_29 rfl hT hA ⟨by decide, by decide⟩ rfl rfl ?_
      refine z_il1 eX1_shareOf_32 ?_
      refine z_tl eX1_shareOf_33 hT hA ⟨by decide, by decide⟩ rfl rfl ⟨by omega, by omega⟩ ?_
      rw [hN.se p hp.1 hp.2]
      refine z_imul eX1_shareOf_34 ?_
      refine z_il2 eX1_shareOf_35 ?_
      refine z_idiv eX1_shareOf_36 ⟨by omega, by omega, by omega, by omega⟩ ?_
      refine z_ireturn eX1_shareOf_37 rfl ?_
      first | (rw [if_pos (by omega)]; exact ⟨rfl, rfl, rfl, rfl⟩) | (rw [if_neg (by omega)]; exact ⟨rfl, rfl, rfl, rfl⟩) | fail
    · refine z_iconst eX1_shareOf_24 ?_
      refine z_ireturn eX1_shareOf_25 rfl ?_
      first | (rw [if_pos (by omega)]; exact ⟨rfl, rfl, rfl, rfl⟩) | (rw [if_neg (by omega)]; exact ⟨rfl, rfl, rfl, rfl⟩) | fail
def qSeenC (M : Int → Int) (set n : Int) : Int := zfold (fun p r => if zbit set p = 1 then zor r (zshr (zshl 7 (M (46 + 4 * p + 0))) 1) else r) 0 n
theorem c_X1_seenBy {G : zG} {lay : zLay} {σ C0 : zMem} {nx x b : Int} (hT : TopL lay x) {set : Int} {M : Int → Int} (hA : CoAt b) (hN : CoN σ b M) (hI : zInv M) : zMM G 2 KX1_seenBy [zP (x + b), zI set] lay (tC x σ C0) nx (0, 0) (zR (some (zI (qSeenC M set (M 3)))) lay (tC x (σ) (C0)) nx) := by
  refine z_met' (L := [zP (x + b), zI set, zU, zU]) gX1_seenBy.1 rfl rfl (Nat.le_of_ble_eq_true rfl) rfl ?_
  have hb0 := hA.b0 (by decide)
  have hne : x + b ≠ -1 := by have := hT.1; omega
  have hm3 := hI.m3
  have hl : ∀ t : Int, 0 ≤ t → t ≤ (M 3) → zW G KX1_seenBy 2 (zR (some (zI (qSeenC M set (M 3)))) lay (tC x (σ) (C0)) nx) 4 [zP (x + b), zI set, zI (qSeenC M set t), zI t] [] lay (tC x (σ) C0) nx (0, 0) := by
    refine z_up ((M 3)) ?_ ?_
    · refine z_il3 eX1_seenBy_4 ?_
      refine z_al0 eX1_seenBy_5 hne ?_
      first | refine z_tg0 (j := 1) lX1_66 eX1_seenBy_6 rfl hT hA (by decide) rfl rfl rfl ?_ | refine z_tg (j := 1) lX1_66 eX1_seenBy_6 rfl hT hA ⟨by decide, by decide⟩ rfl rfl rfl ?_
      rw [hN.n3]
      refine z_icmp_ge (tgt := 41) eX1_seenBy_9 rfl ⟨⟨by omega, by omega⟩, ⟨by omega, by omega⟩⟩ (fun h9 => ?_) (fun h9 => (by exfalso; omega))
      refine z_il2 eX1_seenBy_41 ?_
      refine z_ireturn eX1_seenBy_42 rfl ?_
      first | exact ⟨rfl, rfl, rfl, rfl⟩ | exact zRb1 (by omega) | exact zRb0 (by omega) | exact zRe (by omega)
    · intro t h0 h1 ih
      have z01 := zbit_01 set t
      rw [show qSeenC M set (t + 1) = if zbit set t = 1 then zor (qSeenC M set t) (zshr (zshl 7 (M (46 + 4 * t + 0))) 1) else qSeenC M set t from zfold_s _ _ h0] at ih
      refine z_il3 eX1_seenBy_4 ?_
      refine z_al0 eX1_seenBy_5 hne ?_
      first | refine z_tg0 (j := 1) lX1_66 eX1_seenBy_6 rfl hT hA (by decide) rfl rfl rfl ?_ | refine z_tg (j := 1) lX1_66 eX1_seenBy_6 rfl hT hA ⟨by decide, by decide⟩ rfl rfl rfl ?_
      rw [hN.n3]
      refine z_icmp_ge (tgt := 41) eX1_seenBy_9 rfl ⟨⟨by omega, by omega⟩, ⟨by omega, by omega⟩⟩ (fun h9 => (by exfalso; omega)) (fun h9 => ?_)
      refine z_il1 eX1_seenBy_12 ?_
      refine z_il3 eX1_seenBy_13 ?_
      refine z_N2 eX1_seenBy_14 vX1_101 rfl (Nat.le_of_ble_eq_true rfl) (Nat.le_of_ble_eq_true rfl) (c_X11_bitOf hT ⟨by omega, by omega⟩) ?_
      refine z_iconst eX1_seenBy_17 ?_
      refine z_icmp_ne (tgt := 35) eX1_seenBy_18 rfl ⟨⟨by omega, by omega⟩, ⟨by omega, by omega⟩⟩ (fun h18 => ?_) (fun h18 => ?_)
      · refine z_ii3 eX1_seenBy_35 (Nat.ne_of_beq_eq_false rfl) ?_
        refine z_goto eX1_seenBy_38 (tgt := 4) rfl ?_
        first | (rw [if_pos (by omega)] at ih; exact ih) | (rw [if_neg (by omega)] at ih; exact ih)
      · refine z_il2 eX1_seenBy_21 ?_
        refine z_bipush eX1_seenBy_22 (by decide) ?_
        refine z_al0 eX1_seenBy_24 hne ?_
        first | refine z_ta0 lX1_9 eX1_seenBy_25 rfl hT hA (by decide) rfl rfl ?_ | refine z_ta lX1_9 eX1_seenBy_25 rfl hT hA ⟨by decide, by decide⟩ rfl rfl ?_
        refine z_il3 eX1_seenBy_28 ?_
        refine z_tl eX1_seenBy_29 hT hA ⟨by decide, by decide⟩ rfl rfl ⟨by omega, by omega⟩ ?_
        rw [hN.pl t h0 h1]
        refine z_ishl eX1_seenBy_30 ?_
        refine z_iconst eX1_seenBy_31 ?_
        refine z_ishr eX1_seenBy_32 ?_
        refine z_ior eX1_seenBy_33 ?_
        refine z_is2 eX1_seenBy_34 (Nat.ne_of_beq_eq_false rfl) ?_
        refine z_ii3 eX1_seenBy_35 (Nat.ne_of_beq_eq_false rfl) ?_
        refine z_goto eX1_seenBy_38 (tgt := 4) rfl ?_
        first | (rw [if_pos (by omega)] at ih; exact ih) | (rw [if_neg (by omega)] at ih; exact ih)
  refine z_iconst eX1_seenBy_0 ?_
  refine z_is2 eX1_seenBy_1 (Nat.ne_of_beq_eq_false rfl) ?_
  refine z_iconst eX1_seenBy_2 ?_
  refine z_is3 eX1_seenBy_3 (Nat.ne_of_beq_eq_false rfl) ?_
  exact hl 0 (by decide) hm3.1
theorem zB_seen : ∀ c, c < 8 → ∀ k, k < 8 → zB (zshr (zshl 7 (c : Nat)) 1) k = decide (-1 ≤ (k : Int) - (c : Int) ∧ (k : Int) - (c : Int) ≤ 1) := by decide +kernel
theorem zB_seenK (c a : Int) {k : Nat} (hk : k < 32) : ∀ n : Nat, n ≤ 32 → zB (qSeenK c a n) k = (zB a k || decide ((k : Int) < (n : Int) ∧ -1 ≤ (k : Int) - c ∧ (k : Int) - c ≤ 1)) := by
  intro n
  induction n with
  | zero => intro _; simp [qSeenK, zfold_0, show ¬ ((k : Int) < 0) by omega]
  | succ n ih =>
    intro hn
    have ih := ih (by omega)
    rw [show ((n + 1 : Nat) : Int) = (n : Int) + 1 by omega, show qSeenK c a ((n : Int) + 1) = zor (qSeenK c a n) (if -1 ≤ (n : Int) - c ∧ (n : Int) - c ≤ 1 then zshl 1 n else 0) from zfold_s _ _ (by omega), zB_or, ih, Bool.or_assoc]
    congr 1
    by_cases e : -1 ≤ (n : Int) - c ∧ (n : Int) - c ≤ 1
    · rw [if_pos e]
      rw [zB_shl1 (by omega) (by omega) hk]
      by_cases e2 : (k : Int) = n
      · simp [e2, e, show (n : Int) < (n : Int) + 1 by omega]
      · simp [e2, show ((k : Int) < (n : Int) + 1) ↔ ((k : Int) < n) by omega]
    · rw [if_neg e, zB_0, Bool.or_false]
      by_cases e2 : (k : Int) = n
      · rw [e2]; simp [e]
      · simp [show ((k : Int) < (n : Int) + 1) ↔ ((k : Int) < n) by omega]
theorem qSeen_B {M : Int → Int} (hI : zInv M) (set : Int) {k : Nat} (hk : k < 8) : ∀ n : Nat, (n : Int) ≤ 7 → zB (qSeenC M set n) k = zB (qSeen M set n) k := by
  intro n
  induction n with
  | zero => intro _; rfl
  | succ n ih =>
    intro hn
    have hU := hI.U (p := n) ⟨by omega, by omega⟩
    rw [show ((n + 1 : Nat) : Int) = (n : Int) + 1 by omega, show qSeenC M set ((n : Int) + 1) = if zbit set n = 1 then zor (qSeenC M set n) (zshr (zshl 7 (M (46 + 4 * (n : Int) + 0))) 1) else qSeenC M set n from zfold_s _ _ (by omega), show qSeen M set ((n : Int) + 1) = if zbit set n = 1 then qSeenK (M (46 + 4 * (n : Int) + 0)) (qSeen M set n) 8 else qSeen M set n from zfold_s _ _ (by omega)]
    split
    · generalize M (46 + 4 * (n : Int) + 0) = c at hU
      have h1 := zB_seen c.toNat (by omega) k hk
      rw [Int.toNat_of_nonneg hU.1.1] at h1
      have h2 := zB_seenK c (qSeen M set n) (k := k) (by omega) 8 (by decide)
      rw [show ((8 : Nat) : Int) = 8 from rfl] at h2
      rw [zB_or, h1, ih (by omega), h2]
      simp [show (k : Int) < 8 by omega]
    · exact ih (by omega)
