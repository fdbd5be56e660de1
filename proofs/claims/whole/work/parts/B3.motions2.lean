/-! The motions, on. -/
theorem c_X6_inState {G : zG} {lay : zLay} {σ C0 : zMem} {nx x b : Int} (hT : TopL lay x) {v : Int} {M : Int → Int} (hA : MoAt b) (hW : MoR σ b M) (hI : zInv M) (hv : zin v) : zMM G 1 KX6_inState [zP (x + b), zI v] lay (tC x σ C0) nx (0, 0) (zR (some (zI (qInSt M v))) lay (tC x (σ) C0) nx) := by
  refine z_met' (L := [zP (x + b), zI v, zU, zU]) gX6_inState.1 rfl rfl (Nat.le_of_ble_eq_true rfl) rfl ?_
  have hb0 := hA.b0 (by decide)
  have hne : x + b ≠ -1 := by have := hT.1; omega
  have hm4 := hI.m4
  unfold zin at hv
  have hl : ∀ t : Int, 0 ≤ t → t ≤ (M 4) → zW G KX6_inState 1 (zR (some (zI (qInSt M v))) lay (tC x (σ) C0) nx) 4 [zP (x + b), zI v, zI (zors (fun t => if M (74 + 5 * t + 4) = v then zshl 1 t else 0) t), zI t] [] lay (tC x (σ) C0) nx (0, 0) := by
    refine z_up ((M 4)) ?_ ?_
    · refine z_il3 eX6_inState_4 ?_
      refine z_al0 eX6_inState_5 hne ?_
      first | refine z_tg0 (j := 0) lX6_36 eX6_inState_6 rfl hT hA (by decide) rfl rfl rfl ?_ | refine z_tg (j := 0) lX6_36 eX6_inState_6 rfl hT hA ⟨by decide, by decide⟩ rfl rfl rfl ?_
      rw [hW.1]
      refine z_icmp_ge (tgt := 34) eX6_inState_9 rfl ⟨⟨by omega, by omega⟩, ⟨by omega, by omega⟩⟩ (fun h9 => ?_) (fun h9 => (by exfalso; omega))
      refine z_il2 eX6_inState_34 ?_
      refine z_ireturn eX6_inState_35 rfl ?_
      first | exact ⟨rfl, rfl, rfl, rfl⟩ | exact zRb1 (by omega) | exact zRb0 (by omega) | exact zRe (by omega)
    · intro t h0 h1 ih
      have hst := hI.st (k := t) ⟨by omega, by omega⟩
      rw [zors_s _ h0] at ih
      refine z_il3 eX6_inState_4 ?_
      refine z_al0 eX6_inState_5 hne ?_
      first | refine z_tg0 (j := 0) lX6_36 eX6_inState_6 rfl hT hA (by decide) rfl rfl rfl ?_ | refine z_tg (j := 0) lX6_36 eX6_inState_6 rfl hT hA ⟨by decide, by decide⟩ rfl rfl rfl ?_
      rw [hW.1]
      refine z_icmp_ge (tgt := 34) eX6_inState_9 rfl ⟨⟨by omega, by omega⟩, ⟨by omega, by omega⟩⟩ (fun h9 => (by exfalso; omega)) (fun h9 => ?_)
      refine z_al0 eX6_inState_12 hne ?_
      first | refine z_ta0 lX6_24 eX6_inState_13 rfl hT hA (by decide) rfl rfl ?_ | refine z_ta lX6_24 eX6_inState_13 rfl hT hA ⟨by decide, by decide⟩ rfl rfl ?_
      refine z_il3 eX6_inState_16 ?_
      refine z_tl eX6_inState_17 hT hA ⟨by decide, by decide⟩ rfl rfl ⟨by omega, by omega⟩ ?_
      rw [(hW.2.1 t (by omega) (by omega)).2.2.2.2]
      refine z_il1 eX6_inState_18 ?_
      refine z_icmp_ne (tgt := 28) eX6_inState_19 rfl ⟨⟨by omega, by omega⟩, ⟨by omega, by omega⟩⟩ (fun h19 => ?_) (fun h19 => ?_)
      · refine z_ii3 eX6_inState_28 (Nat.ne_of_beq_eq_false rfl) ?_
        refine z_goto eX6_inState_31 (tgt := 4) rfl ?_
        first | (rw [if_pos (by omega)] at ih; exact ih) | (rw [if_neg (by omega), zor_0 (zors_in _ h0)] at ih; exact ih)
      · refine z_il2 eX6_inState_22 ?_
        refine z_iconst eX6_inState_23 ?_
        refine z_il3 eX6_inState_24 ?_
        refine z_ishl eX6_inState_25 ?_
        refine z_ior eX6_inState_26 ?_
        refine z_is2 eX6_inState_27 (Nat.ne_of_beq_eq_false rfl) ?_
        refine z_ii3 eX6_inState_28 (Nat.ne_of_beq_eq_false rfl) ?_
        refine z_goto eX6_inState_31 (tgt := 4) rfl ?_
        first | (rw [if_pos (by omega)] at ih; exact ih) | (rw [if_neg (by omega), zor_0 (zors_in _ h0)] at ih; exact ih)
  refine z_iconst eX6_inState_0 ?_
  refine z_is2 eX6_inState_1 (Nat.ne_of_beq_eq_false rfl) ?_
  refine z_iconst eX6_inState_2 ?_
  refine z_is3 eX6_inState_3 (Nat.ne_of_beq_eq_false rfl) ?_
  exact hl 0 (by decide) hm4.1
def qSumOf (f : Int → Int) (set n : Int) : Int := zsum (fun k => zbit set k * f k) n
theorem c_X6_sumOver {G : zG} {lay : zLay} {σ C0 : zMem} {nx x b : Int} (hT : TopL lay x) {w set : Int} {M f : Int → Int} (hA : MoAt b) (hW : MoR σ b M) (hI : zInv M) (hw : 1 ≤ w ∧ w < 6) (hf : ∀ k, 0 ≤ k → k < M 4 → σ (b + w) k = f k) : zMM G 2 KX6_sumOver [zP (x + b), zP (x + (b + w)), zI set] lay (tC x σ C0) nx (0, 0) (zR (some (zI (qSumOf f set (M 4)))) lay (tC x (σ) C0) nx) := by
  refine z_met' (L := [zP (x + b), zP (x + (b + w)), zI set, zU, zU]) gX6_sumOver.1 rfl rfl (Nat.le_of_ble_eq_true rfl) rfl ?_
  have hb0 := hA.b0 (by decide)
  have hx := hT.1
  have hne : x + b ≠ -1 := by omega
  have hm4 := hI.m4
  have hlw : layMo w = (100, 8) := by unfold layMo; rw [if_neg (by omega), if_pos (by omega)]
  have hrw : ∀ j, rfMo w j = none := fun j => by unfold rfMo; rw [if_neg (by omega)]
  have hl : ∀ t : Int, 0 ≤ t → t ≤ (M 4) → zW G KX6_sumOver 2 (zR (some (zI (qSumOf f set (M 4)))) lay (tC x (σ) C0) nx) 5 [zP (x + b), zP (x + (b + w)), zI set, zI (qSumOf f set t), zI t] [] lay (tC x (σ) C0) nx (0, 0) := by
    refine z_up ((M 4)) ?_ ?_
    · refine z_il4 eX6_sumOver_5 ?_
      refine z_al0 eX6_sumOver_7 hne ?_
      first | refine z_tg0 (j := 0) lX6_36 eX6_sumOver_8 rfl hT hA (by decide) rfl rfl rfl ?_ | refine z_tg (j := 0) lX6_36 eX6_sumOver_8 rfl hT hA ⟨by decide, by decide⟩ rfl rfl rfl ?_
      rw [hW.1]
      refine z_icmp_ge (tgt := 41) eX6_sumOver_11 rfl ⟨⟨by omega, by omega⟩, ⟨by omega, by omega⟩⟩ (fun h11 => ?_) (fun h11 => (by exfalso; omega))
      refine z_il3 eX6_sumOver_41 ?_
      refine z_ireturn eX6_sumOver_42 rfl ?_
      first | exact ⟨rfl, rfl, rfl, rfl⟩ | exact zRb1 (by omega) | exact zRb0 (by omega) | exact zRe (by omega)
    · intro t h0 h1 ih
      refine z_il4 eX6_sumOver_5 ?_
      refine z_al0 eX6_sumOver_7 hne ?_
      first | refine z_tg0 (j := 0) lX6_36 eX6_sumOver_8 rfl hT hA (by decide) rfl rfl rfl ?_ | refine z_tg (j := 0) lX6_36 eX6_sumOver_8 rfl hT hA ⟨by decide, by decide⟩ rfl rfl rfl ?_
      rw [hW.1]
      refine z_icmp_ge (tgt := 41) eX6_sumOver_11 rfl ⟨⟨by omega, by omega⟩, ⟨by omega, by omega⟩⟩ (fun h11 => (by exfalso; omega)) (fun h11 => ?_)
      refine z_il4 eX6_sumOver_14 ?_
      refine z_al1 eX6_sumOver_16 (by omega) ?_
      refine z_tn eX6_sumOver_17 hT hA (i := w) ⟨by omega, by omega⟩ hlw ?_
      refine z_icmp_ge (tgt := 41) eX6_sumOver_18 rfl ⟨⟨by omega, by omega⟩, ⟨by omega, by omega⟩⟩ (fun h18 => (by exfalso; omega)) (fun h18 => ?_)
      refine z_il3 eX6_sumOver_21 ?_
      refine z_il2 eX6_sumOver_22 ?_
      refine z_il4 eX6_sumOver_23 ?_
      refine z_N2 eX6_sumOver_25 vX6_50 rfl (Nat.le_of_ble_eq_true rfl) (Nat.le_of_ble_eq_true rfl) (c_X11_bitOf hT ⟨by omega, by omega⟩) ?_
      refine z_al1 eX6_sumOver_28 (by omega) ?_
      refine z_il4 eX6_sumOver_29 ?_
      refine z_tl eX6_sumOver_31 hT hA (i := w) ⟨by omega, by omega⟩ hlw (hrw _) ⟨by omega, by omega⟩ ?_
      rw [hf t h0 h1]
      refine z_imul eX6_sumOver_32 ?_
      refine z_iadd eX6_sumOver_33 ?_
      refine z_is3 eX6_sumOver_34 (Nat.ne_of_beq_eq_false rfl) ?_
      refine z_ii4 eX6_sumOver_35 (Nat.ne_of_beq_eq_false rfl) ?_
      refine z_goto eX6_sumOver_38 (tgt := 5) rfl ?_
      unfold qSumOf at ih ⊢
      rw [zsum_s _ h0] at ih; exact ih
  refine z_iconst eX6_sumOver_0 ?_
  refine z_is3 eX6_sumOver_1 (Nat.ne_of_beq_eq_false rfl) ?_
  refine z_iconst eX6_sumOver_2 ?_
  refine z_is4 eX6_sumOver_3 (Nat.ne_of_beq_eq_false rfl) ?_
  exact hl 0 (by decide) hm4.1
def qLkd (M : Int → Int) (p n : Int) : Int := zors (fun k => zshl (zbit (M (74 + 5 * k + 3)) p) k) n
theorem c_X6_thoseLiked {G : zG} {lay : zLay} {σ C0 : zMem} {nx x b : Int} (hT : TopL lay x) {p : Int} {M : Int → Int} (hA : MoAt b) (hW : MoR σ b M) (hI : zInv M) (hp : 0 ≤ p ∧ p < 32) : zMM G 2 KX6_thoseLiked [zP (x + b), zI p] lay (tC x σ C0) nx (0, 0) (zR (some (zI (qLkd M p (M 4)))) lay (tC x (σ) C0) nx) := by
  refine z_met' (L := [zP (x + b), zI p, zU, zU]) gX6_thoseLiked.1 rfl rfl (Nat.le_of_ble_eq_true rfl) rfl ?_
  have hb0 := hA.b0 (by decide)
  have hne : x + b ≠ -1 := by have := hT.1; omega
  have hm4 := hI.m4
  have hl : ∀ t : Int, 0 ≤ t → t ≤ (M 4) → zW G KX6_thoseLiked 2 (zR (some (zI (qLkd M p (M 4)))) lay (tC x (σ) C0) nx) 4 [zP (x + b), zI p, zI (qLkd M p t), zI t] [] lay (tC x (σ) C0) nx (0, 0) := by
    refine z_up ((M 4)) ?_ ?_
    · refine z_il3 eX6_thoseLiked_4 ?_
      refine z_al0 eX6_thoseLiked_5 hne ?_
      first | refine z_tg0 (j := 0) lX6_36 eX6_thoseLiked_6 rfl hT hA (by decide) rfl rfl rfl ?_ | refine z_tg (j := 0) lX6_36 eX6_thoseLiked_6 rfl hT hA ⟨by decide, by decide⟩ rfl rfl rfl ?_
      rw [hW.1]
      refine z_icmp_ge (tgt := 33) eX6_thoseLiked_9 rfl ⟨⟨by omega, by omega⟩, ⟨by omega, by omega⟩⟩ (fun h9 => ?_) (fun h9 => (by exfalso; omega))
      refine z_il2 eX6_thoseLiked_33 ?_
      refine z_ireturn eX6_thoseLiked_34 rfl ?_
      first | exact ⟨rfl, rfl, rfl, rfl⟩ | exact zRb1 (by omega) | exact zRb0 (by omega) | exact zRe (by omega)
    · intro t h0 h1 ih
      rw [show qLkd M p (t + 1) = zor (qLkd M p t) (zshl (zbit (M (74 + 5 * t + 3)) p) t) from zors_s _ h0] at ih
      refine z_il3 eX6_thoseLiked_4 ?_
      refine z_al0 eX6_thoseLiked_5 hne ?_
      first | refine z_tg0 (j := 0) lX6_36 eX6_thoseLiked_6 rfl hT hA (by decide) rfl rfl rfl ?_ | refine z_tg (j := 0) lX6_36 eX6_thoseLiked_6 rfl hT hA ⟨by decide, by decide⟩ rfl rfl rfl ?_
      rw [hW.1]
      refine z_icmp_ge (tgt := 33) eX6_thoseLiked_9 rfl ⟨⟨by omega, by omega⟩, ⟨by omega, by omega⟩⟩ (fun h9 => (by exfalso; omega)) (fun h9 => ?_)
      refine z_il2 eX6_thoseLiked_12 ?_
      refine z_al0 eX6_thoseLiked_13 hne ?_
      first | refine z_ta0 lX6_21 eX6_thoseLiked_14 rfl hT hA (by decide) rfl rfl ?_ | refine z_ta lX6_21 eX6_thoseLiked_14 rfl hT hA ⟨by decide, by decide⟩ rfl rfl ?_
      refine z_il3 eX6_thoseLiked_17 ?_
      refine z_tl eX6_thoseLiked_18 hT hA ⟨by decide, by decide⟩ rfl rfl ⟨by omega, by omega⟩ ?_
      rw [(hW.2.1 t (by omega) (by omega)).2.2.2.1]
      refine z_il1 eX6_thoseLiked_19 ?_
      refine z_N2 eX6_thoseLiked_20 vX6_50 rfl (Nat.le_of_ble_eq_true rfl) (Nat.le_of_ble_eq_true rfl) (c_X11_bitOf hT ⟨by omega, by omega⟩) ?_
      refine z_il3 eX6_thoseLiked_23 ?_
      refine z_ishl eX6_thoseLiked_24 ?_
      refine z_ior eX6_thoseLiked_25 ?_
      refine z_is2 eX6_thoseLiked_26 (Nat.ne_of_beq_eq_false rfl) ?_
      refine z_ii3 eX6_thoseLiked_27 (Nat.ne_of_beq_eq_false rfl) ?_
      refine z_goto eX6_thoseLiked_30 (tgt := 4) rfl ?_
      exact ih
  refine z_iconst eX6_thoseLiked_0 ?_
  refine z_is2 eX6_thoseLiked_1 (Nat.ne_of_beq_eq_false rfl) ?_
  refine z_iconst eX6_thoseLiked_2 ?_
  refine z_is3 eX6_thoseLiked_3 (Nat.ne_of_beq_eq_false rfl) ?_
  exact hl 0 (by decide) hm4.1
theorem c_X6_likedByOneOnly {G : zG} {lay : zLay} {σ C0 : zMem} {nx x b : Int} (hT : TopL lay x) {p o : Int} {M : Int → Int} (hA : MoAt b) (hW : MoR σ b M) (hI : zInv M) (hp : 0 ≤ p ∧ p < 32) (ho : 0 ≤ o ∧ o < 32) : zMM G 3 KX6_likedByOneOnly [zP (x + b), zI p, zI o] lay (tC x σ C0) nx (0, 0) (zR (some (zI (zand (qLkd M p (M 4)) (zxor (qLkd M o (M 4)) (-1))))) lay (tC x (σ) C0) nx) := by
  refine z_met' (L := [zP (x + b), zI p, zI o]) gX6_likedByOneOnly.1 rfl rfl (Nat.le_of_ble_eq_true rfl) rfl ?_
  have hb0 := hA.b0 (by decide)
  have hne : x + b ≠ -1 := by have := hT.1; omega
  refine z_al0 eX6_likedByOneOnly_0 hne ?_
  refine z_il1 eX6_likedByOneOnly_1 ?_
  refine z_V1 eX6_likedByOneOnly_2 vX6_54 rfl rfl (Nat.le_of_ble_eq_true rfl) (Nat.le_of_ble_eq_true rfl) ((hA).L0 hT (by decide)) (c_X6_thoseLiked hT hA hW hI ⟨by omega, by omega⟩) ?_
  refine z_al0 eX6_likedByOneOnly_5 hne ?_
  refine z_il2 eX6_likedByOneOnly_6 ?_
  refine z_V1 eX6_likedByOneOnly_7 vX6_54 rfl rfl (Nat.le_of_ble_eq_true rfl) (Nat.le_of_ble_eq_true rfl) ((hA).L0 hT (by decide)) (c_X6_thoseLiked hT hA hW hI ⟨by omega, by omega⟩) ?_
  refine z_iconst eX6_likedByOneOnly_10 ?_
  refine z_ixor eX6_likedByOneOnly_11 ?_
  refine z_iand eX6_likedByOneOnly_12 ?_
  refine z_ireturn eX6_likedByOneOnly_13 rfl ?_
  first | exact ⟨rfl, rfl, rfl, rfl⟩ | exact zRb1 (by omega) | exact zRb0 (by omega) | exact zRe (by omega)
theorem zbit_B1' {s p : Int} (h0 : 0 ≤ p) (h1 : p < 32) : zbit s p = zbi (zB s p.toNat = true) := by
  rw [zbit_B s h0 h1]
  unfold zbi
  by_cases e : zB s p.toNat = true
  · rw [if_pos e, if_pos e]
  · rw [if_neg e, if_neg e]
theorem qLkd_B (M : Int → Int) {p : Int} (hp : 0 ≤ p ∧ p < 32) {n : Int} (hn : 0 ≤ n ∧ n ≤ 31) {k : Nat} (hk : k < 32) : zB (qLkd M p n) k = true ↔ (k : Int) < n ∧ zbit (M (74 + 5 * (k : Int) + 3)) p = 1 := by
  unfold qLkd
  rw [zB_zors _ hn.1]
  constructor
  · rintro ⟨t, ⟨t0, t1⟩, h⟩
    have := (zB_shlb (zbit_01 _ p) t0 (by omega) hk).mp h
    rw [this.2]
    exact ⟨t1, this.1⟩
  · rintro ⟨h1, h2⟩
    exact ⟨k, ⟨by omega, h1⟩, (zB_shlb (zbit_01 _ p) (by omega) (by omega) hk).mpr ⟨h2, rfl⟩⟩
theorem qLkd_256 (M : Int → Int) {p : Int} (hp : 0 ≤ p ∧ p < 32) {n : Int} (hn : 0 ≤ n ∧ n ≤ 8) : 0 ≤ qLkd M p n ∧ qLkd M p n < 256 := by
  have := zB_of (x := qLkd M p n) (n := 8) (zors_in _ hn.1) (by decide) (fun k k0 k1 => by
    cases e : zB (qLkd M p n) k with
    | false => rfl
    | true => exact absurd ((qLkd_B M hp ⟨hn.1, by omega⟩ k1).mp e).1 (by omega))
  exact this
theorem zxor_256 {a c : Int} (ha : 0 ≤ a ∧ a < 256) (hc : 0 ≤ c ∧ c < 256) : 0 ≤ zxor a c ∧ zxor a c < 256 :=
  zB_of (x := zxor a c) (n := 8) (zxor_in _ _) (by decide) (fun k k0 k1 => by rw [zB_xor, zB_lt (n := 8) ha.1 (by omega) ha.2 k0, zB_lt (n := 8) hc.1 (by omega) hc.2 k0]; rfl)
theorem zsum_cut {f : Int → Int} {n m : Int} (hn : 0 ≤ n) (hm : n ≤ m) (h : ∀ t, n ≤ t → t < m → f t = 0) : zsum f m = zsum f n := by
  have : ∀ d : Nat, n + (d : Int) ≤ m → zsum f (n + d) = zsum f n := by
    intro d
    induction d with
    | zero => intro _; rw [show n + ((0 : Nat) : Int) = n by omega]
    | succ d ih =>
      intro hd
      rw [show n + ((d + 1 : Nat) : Int) = n + (d : Int) + 1 by omega, zsum_s _ (by omega), ih (by omega), h _ (by omega) (by omega), Int.add_zero]
  have h1 := this (m - n).toNat (by omega)
  rwa [show n + ((m - n).toNat : Int) = m by omega] at h1
theorem qLike_x (M : Int → Int) {p o : Int} (hp : 0 ≤ p ∧ p < 32) (ho : 0 ≤ o ∧ o < 32) {n : Int} (hn : 0 ≤ n ∧ n ≤ 8) : n - qbits (zxor (qLkd M p n) (qLkd M o n)) = qLike M p o n := by
  have hb : ∀ t : Int, 0 ≤ t → t < 31 → (zbit (zxor (qLkd M p n) (qLkd M o n)) t = 1 ↔ (t < n ∧ ¬ (zbit (M (74 + 5 * t + 3)) p = 1 ↔ zbit (M (74 + 5 * t + 3)) o = 1))) := by
    intro t t0 t1
    have e1 := qLkd_B M hp (n := n) ⟨hn.1, by omega⟩ (k := t.toNat) (by omega)
    have e2 := qLkd_B M ho (n := n) ⟨hn.1, by omega⟩ (k := t.toNat) (by omega)
    rw [Int.toNat_of_nonneg t0] at e1 e2
    rw [zbit_B1 t0 (by omega), zB_xor]
    cases a1 : zB (qLkd M p n) t.toNat <;> cases a2 : zB (qLkd M o n) t.toNat <;> rw [a1] at e1 <;> rw [a2] at e2 <;> simp at e1 e2 ⊢
    · intro z; exact ⟨fun q => absurd q (e1 z), fun q => absurd q (e2 z)⟩
    · exact ⟨e2.1, fun q => absurd (q.mpr e2.2) (e1 e2.1)⟩
    · exact ⟨e1.1, fun q => absurd (q.mp e1.2) (e2 e1.1)⟩
    · intro z; exact ⟨fun _ => e2.2, fun _ => e1.2⟩
  have h1 : qbits (zxor (qLkd M p n) (qLkd M o n)) = zsum (fun t => zbit (zxor (qLkd M p n) (qLkd M o n)) t) 31 := rfl
  rw [h1, zsum_cut hn.1 (m := 31) (by omega) (fun t t0 t1 => by have := hb t (by omega) t1; have := zbit_01 (zxor (qLkd M p n) (qLkd M o n)) t; omega)]
  have h2 := zsum_add (fun t => zbit (zxor (qLkd M p n) (qLkd M o n)) t) (fun t => zbi (zbit (M (74 + 5 * t + 3)) p = 1 ↔ zbit (M (74 + 5 * t + 3)) o = 1)) hn.1
  have h3 : zsum (fun t => zbit (zxor (qLkd M p n) (qLkd M o n)) t + zbi (zbit (M (74 + 5 * t + 3)) p = 1 ↔ zbit (M (74 + 5 * t + 3)) o = 1)) n = n := by
    have h4 := zsum_bd (f := fun t => zbit (zxor (qLkd M p n) (qLkd M o n)) t + zbi (zbit (M (74 + 5 * t + 3)) p = 1 ↔ zbit (M (74 + 5 * t + 3)) o = 1)) (n := n) (a := 1) (c := 1) hn.1 (fun t t0 t1 => by
      have e1 := hb t t0 (by omega)
      have e2 := zbit_01 (zxor (qLkd M p n) (qLkd M o n)) t
      by_cases e : (zbit (M (74 + 5 * t + 3)) p = 1 ↔ zbit (M (74 + 5 * t + 3)) o = 1)
      · rw [zbi_t e]
        have : zbit (zxor (qLkd M p n) (qLkd M o n)) t ≠ 1 := fun z => (e1.mp z).2 e
        omega
      · rw [zbi_f e]
        have := e1.mpr ⟨t1, e⟩
        omega)
    omega
  rw [h3] at h2
  unfold qLike
  omega
theorem c_X6_sameMinds {G : zG} {lay : zLay} {σ C0 : zMem} {nx x b : Int} (hT : TopL lay x) {p o : Int} {M : Int → Int} (hA : MoAt b) (hW : MoR σ b M) (hI : zInv M) (hp : 0 ≤ p ∧ p < 32) (ho : 0 ≤ o ∧ o < 32) : zMM G 3 KX6_sameMinds [zP (x + b), zI p, zI o] lay (tC x σ C0) nx (0, 0) (zR (some (zI (qLike M p o (M 4)))) lay (tC x (σ) C0) nx) := by
  refine z_met' (L := [zP (x + b), zI p, zI o]) gX6_sameMinds.1 rfl rfl (Nat.le_of_ble_eq_true rfl) rfl ?_
  have hb0 := hA.b0 (by decide)
  have hne : x + b ≠ -1 := by have := hT.1; omega
  refine z_al0 eX6_sameMinds_0 hne ?_
  first | refine z_tg0 (j := 0) lX6_36 eX6_sameMinds_1 rfl hT hA (by decide) rfl rfl rfl ?_ | refine z_tg (j := 0) lX6_36 eX6_sameMinds_1 rfl hT hA ⟨by decide, by decide⟩ rfl rfl rfl ?_
  rw [hW.1]
  refine z_al0 eX6_sameMinds_4 hne ?_
  refine z_il1 eX6_sameMinds_5 ?_
  refine z_V1 eX6_sameMinds_6 vX6_54 rfl rfl (Nat.le_of_ble_eq_true rfl) (Nat.le_of_ble_eq_true rfl) ((hA).L0 hT (by decide)) (c_X6_thoseLiked hT hA hW hI ⟨by omega, by omega⟩) ?_
  refine z_al0 eX6_sameMinds_9 hne ?_
  refine z_il2 eX6_sameMinds_10 ?_
  refine z_V1 eX6_sameMinds_11 vX6_54 rfl rfl (Nat.le_of_ble_eq_true rfl) (Nat.le_of_ble_eq_true rfl) ((hA).L0 hT (by decide)) (c_X6_thoseLiked hT hA hW hI ⟨by omega, by omega⟩) ?_
  refine z_ixor eX6_sameMinds_14 ?_
  refine z_S1 eX6_sameMinds_15 vX6_57 rfl rfl (Nat.le_of_ble_eq_true rfl) (Nat.le_of_ble_eq_true rfl) (c_J6_bitCount_0f7a4 (zxor_256 (qLkd_256 M hp hI.m4) (qLkd_256 M ho hI.m4))) ?_
  refine z_isub eX6_sameMinds_18 ?_
  rw [qLike_x M hp ho hI.m4]
  refine z_ireturn eX6_sameMinds_19 rfl ?_
  first | exact ⟨rfl, rfl, rfl, rfl⟩ | exact zRb1 (by omega) | exact zRb0 (by omega) | exact zRe (by omega)
noncomputable def qAheadC (M : Int → Int) (a set n : Int) : Int := zsum (fun i => zbi (zbit set i = 1 ∧ (M (74 + 5 * a + 2) * M (74 + 5 * i + 1) < M (74 + 5 * i + 2) * M (74 + 5 * a + 1) ∨ M (74 + 5 * i + 2) * M (74 + 5 * a + 1) = M (74 + 5 * a + 2) * M (74 + 5 * i + 1) ∧ i < a))) n
theorem c_X6_hastierThan {G : zG} {lay : zLay} {σ C0 : zMem} {nx x b : Int} (hT : TopL lay x) {k set : Int} {M : Int → Int} (hA : MoAt b) (hW : MoR σ b M) (hI : zInv M) (hk : 0 ≤ k ∧ k < M 4) : zMM G 2 KX6_hastierThan [zP (x + b), zI k, zI set] lay (tC x σ C0) nx (0, 0) (zR (some (zI (qAheadC M k set (M 4)))) lay (tC x (σ) C0) nx) := by
  refine z_met' (L := [zP (x + b), zI k, zI set, zU, zU, zU, zU]) gX6_hastierThan.1 rfl rfl (Nat.le_of_ble_eq_true rfl) rfl ?_
  have hb0 := hA.b0 (by decide)
  have hne : x + b ≠ -1 := by have := hT.1; omega
  have hm4 := hI.m4
  have hk8 : 0 ≤ k ∧ k < 8 := ⟨hk.1, by omega⟩
  have wk := hW.2.1 k hk.1 hk.2
  have ck := hI.V hk8
  have hl : ∀ t : Int, 0 ≤ t → t ≤ M 4 → ∀ y5 y6 : zAV, zW G KX6_hastierThan 2 (zR (some (zI (qAheadC M k set (M 4)))) lay (tC x σ C0) nx) 5 [zP (x + b), zI k, zI set, zI (qAheadC M k set t), zI t, y5, y6] [] lay (tC x σ C0) nx (0, 0) := by
    refine z_up (M 4) ?_ ?_
    · intro y5 y6
      refine z_il4 eX6_hastierThan_5 ?_
      refine z_al0 eX6_hastierThan_7 hne ?_
      first | refine z_tg0 (j := 0) lX6_36 eX6_hastierThan_8 rfl hT hA (by decide) rfl rfl rfl ?_ | refine z_tg (j := 0) lX6_36 eX6_hastierThan_8 rfl hT hA ⟨by decide, by decide⟩ rfl rfl rfl ?_
      rw [hW.1]
      refine z_icmp_ge (tgt := 85) eX6_hastierThan_11 rfl ⟨⟨by omega, by omega⟩, ⟨by omega, by omega⟩⟩ (fun h11 => ?_) (fun h11 => (by exfalso; omega))
      refine z_il3 eX6_hastierThan_85 ?_
      refine z_ireturn eX6_hastierThan_86 rfl ?_
      first | exact ⟨rfl, rfl, rfl, rfl⟩ | exact zRb1 (by omega) | exact zRb0 (by omega) | exact zRe (by omega)
    · intro t t0 t1 ih y5 y6
      have wt := hW.2.1 t t0 t1
      have ct := hI.V (k := t) ⟨t0, by omega⟩
      have p1 := zmul_bd ck.2.2.1 ct.2.1
      have p2 := zmul_bd ct.2.2.1 ck.2.1
      have z01 := zbit_01 set t
      rw [show qAheadC M k set (t + 1) = qAheadC M k set t + zbi (zbit set t = 1 ∧ (M (74 + 5 * k + 2) * M (74 + 5 * t + 1) < M (74 + 5 * t + 2) * M (74 + 5 * k + 1) ∨ M (74 + 5 * t + 2) * M (74 + 5 * k + 1) = M (74 + 5 * k + 2) * M (74 + 5 * t + 1) ∧ t < k)) from zsum_s _ t0] at ih
      generalize hb1 : M (74 + 5 * k + 2) * M (74 + 5 * t + 1) = u at p1 ih
      generalize hb2 : M (74 + 5 * t + 2) * M (74 + 5 * k + 1) = v at p2 ih
      have hy : zbit set t = 1 ∧ (u < v ∨ v = u ∧ t < k) → zW G KX6_hastierThan 2 (zR (some (zI (qAheadC M k set (M 4)))) lay (tC x σ C0) nx) 5 [zP (x + b), zI k, zI set, zI (qAheadC M k set t + 1), zI (t + 1), zI u, zI v] [] lay (tC x σ C0) nx (0, 0) := fun z => by have := ih (zI u) (zI v); rwa [zbi_t z] at this
      have hn : ¬ (zbit set t = 1 ∧ (u < v ∨ v = u ∧ t < k)) → zW G KX6_hastierThan 2 (zR (some (zI (qAheadC M k set (M 4)))) lay (tC x σ C0) nx) 5 [zP (x + b), zI k, zI set, zI (qAheadC M k set t), zI (t + 1), zI u, zI v] [] lay (tC x σ C0) nx (0, 0) := fun z => by have := ih (zI u) (zI v); rwa [zbi_f z, Int.add_zero] at this
      refine z_il4 eX6_hastierThan_5 ?_
      refine z_al0 eX6_hastierThan_7 hne ?_
      first | refine z_tg0 (j := 0) lX6_36 eX6_hastierThan_8 rfl hT hA (by decide) rfl rfl rfl ?_ | refine z_tg (j := 0) lX6_36 eX6_hastierThan_8 rfl hT hA ⟨by decide, by decide⟩ rfl rfl rfl ?_
      rw [hW.1]
      refine z_icmp_ge (tgt := 85) eX6_hastierThan_11 rfl ⟨⟨by omega, by omega⟩, ⟨by omega, by omega⟩⟩ (fun h11 => (by exfalso; omega)) (fun h11 => ?_)
      refine z_al0 eX6_hastierThan_14 hne ?_
      first | refine z_ta0 lX6_18 eX6_hastierThan_15 rfl hT hA (by decide) rfl rfl ?_ | refine z_ta lX6_18 eX6_hastierThan_15 rfl hT hA ⟨by decide, by decide⟩ rfl rfl ?_
      refine z_il1 eX6_hastierThan_18 ?_
      refine z_tl eX6_hastierThan_19 hT hA ⟨by decide, by decide⟩ rfl rfl ⟨by omega, by omega⟩ ?_
      rw [wk.2.2.1]
      refine z_al0 eX6_hastierThan_20 hne ?_
      first | refine z_ta0 lX6_15 eX6_hastierThan_21 rfl hT hA (by decide) rfl rfl ?_ | refine z_ta lX6_15 eX6_hastierThan_21 rfl hT hA ⟨by decide, by decide⟩ rfl rfl ?_
      refine z_il4 eX6_hastierThan_24 ?_
      refine z_tl eX6_hastierThan_26 hT hA ⟨by decide, by decide⟩ rfl rfl ⟨by omega, by omega⟩ ?_
      rw [wt.2.1]
      refine z_imul eX6_hastierThan_27 ?_
      rw [hb1]
      refine z_is5 eX6_hastierThan_28 (Nat.ne_of_beq_eq_false rfl) ?_
      refine z_al0 eX6_hastierThan_30 hne ?_
      first | refine z_ta0 lX6_18 eX6_hastierThan_31 rfl hT hA (by decide) rfl rfl ?_ | refine z_ta lX6_18 eX6_hastierThan_31 rfl hT hA ⟨by decide, by decide⟩ rfl rfl ?_
      refine z_il4 eX6_hastierThan_34 ?_
      refine z_tl eX6_hastierThan_36 hT hA ⟨by decide, by decide⟩ rfl rfl ⟨by omega, by omega⟩ ?_
      rw [wt.2.2.1]
      refine z_al0 eX6_hastierThan_37 hne ?_
      first | refine z_ta0 lX6_15 eX6_hastierThan_38 rfl hT hA (by decide) rfl rfl ?_ | refine z_ta lX6_15 eX6_hastierThan_38 rfl hT hA ⟨by decide, by decide⟩ rfl rfl ?_
      refine z_il1 eX6_hastierThan_41 ?_
      refine z_tl eX6_hastierThan_42 hT hA ⟨by decide, by decide⟩ rfl rfl ⟨by omega, by omega⟩ ?_
      rw [wk.2.1]
      refine z_imul eX6_hastierThan_43 ?_
      rw [hb2]
      refine z_is6 eX6_hastierThan_44 (Nat.ne_of_beq_eq_false rfl) ?_
      refine z_il2 eX6_hastierThan_46 ?_
      refine z_il4 eX6_hastierThan_47 ?_
      refine z_N2 eX6_hastierThan_49 vX6_50 rfl (Nat.le_of_ble_eq_true rfl) (Nat.le_of_ble_eq_true rfl) (c_X11_bitOf hT ⟨by omega, by omega⟩) ?_
      refine z_iconst eX6_hastierThan_52 ?_
      refine z_icmp_ne (tgt := 79) eX6_hastierThan_53 rfl ⟨⟨by omega, by omega⟩, ⟨by omega, by omega⟩⟩ (fun h53 => ?_) (fun h53 => ?_)
      · refine z_ii4 eX6_hastierThan_79 (Nat.ne_of_beq_eq_false rfl) ?_
        refine z_goto eX6_hastierThan_82 (tgt := 5) rfl ?_
        first | exact hy (by omega) | exact hn (by omega)
      · refine z_il6 eX6_hastierThan_56 ?_
        refine z_il5 eX6_hastierThan_58 ?_
        refine z_icmp_gt (tgt := 76) eX6_hastierThan_60 rfl ⟨⟨by omega, by omega⟩, ⟨by omega, by omega⟩⟩ (fun h60 => ?_) (fun h60 => ?_)
        · refine z_ii3 eX6_hastierThan_76 (Nat.ne_of_beq_eq_false rfl) ?_
          refine z_ii4 eX6_hastierThan_79 (Nat.ne_of_beq_eq_false rfl) ?_
          refine z_goto eX6_hastierThan_82 (tgt := 5) rfl ?_
          first | exact hy (by omega) | exact hn (by omega)
        · refine z_il6 eX6_hastierThan_63 ?_
          refine z_il5 eX6_hastierThan_65 ?_
          refine z_icmp_ne (tgt := 79) eX6_hastierThan_67 rfl ⟨⟨by omega, by omega⟩, ⟨by omega, by omega⟩⟩ (fun h67 => ?_) (fun h67 => ?_)
          · refine z_ii4 eX6_hastierThan_79 (Nat.ne_of_beq_eq_false rfl) ?_
            refine z_goto eX6_hastierThan_82 (tgt := 5) rfl ?_
            first | exact hy (by omega) | exact hn (by omega)
          · refine z_il4 eX6_hastierThan_70 ?_
            refine z_il1 eX6_hastierThan_72 ?_
            refine z_icmp_ge (tgt := 79) eX6_hastierThan_73 rfl ⟨⟨by omega, by omega⟩, ⟨by omega, by omega⟩⟩ (fun h73 => ?_) (fun h73 => ?_)
            · refine z_ii4 eX6_hastierThan_79 (Nat.ne_of_beq_eq_false rfl) ?_
              refine z_goto eX6_hastierThan_82 (tgt := 5) rfl ?_
              first | exact hy (by omega) | exact hn (by omega)
            · refine z_ii3 eX6_hastierThan_76 (Nat.ne_of_beq_eq_false rfl) ?_
              refine z_ii4 eX6_hastierThan_79 (Nat.ne_of_beq_eq_false rfl) ?_
              refine z_goto eX6_hastierThan_82 (tgt := 5) rfl ?_
              first | exact hy (by omega) | exact hn (by omega)
  refine z_iconst eX6_hastierThan_0 ?_
  refine z_is3 eX6_hastierThan_1 (Nat.ne_of_beq_eq_false rfl) ?_
  refine z_iconst eX6_hastierThan_2 ?_
  refine z_is4 eX6_hastierThan_3 (Nat.ne_of_beq_eq_false rfl) ?_
  exact hl 0 (by decide) hm4.1 zU zU
theorem qAheadC_q {M : Int → Int} {k set n : Int} (hs : ∀ i, 0 ≤ i → i < n → (zbit set i = 1 ↔ M (74 + 5 * i + 4) = 0)) : qAheadC M k set n = qAhead M k n := by
  unfold qAheadC qAhead
  refine zsum_congr (fun i i0 i1 => zbi_iff ?_)
  have := hs i i0 i1
  unfold qHastier
  by_cases e : i = k
  · subst e
    constructor
    · intro z; exact absurd z.2 (by omega)
    · intro z; exact absurd rfl z.1
  · generalize M (74 + 5 * k + 2) * M (74 + 5 * i + 1) = u
    generalize M (74 + 5 * i + 2) * M (74 + 5 * k + 1) = v
    constructor
    · rintro ⟨z1, z2⟩; exact ⟨e, this.mp z1, by omega⟩
    · rintro ⟨z1, z2, z3⟩; exact ⟨this.mpr z2, by omega⟩
