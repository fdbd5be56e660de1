/-! The log; the seed; acts undone; the image; counts. -/
theorem m_X12_logged {G : zG} {lay : zLay} {σ C0 : zMem} {nx x : Int} {a w : Int} (hR : RefL lay x) (ha : 0 ≤ a ∧ a < 60) (hw : 0 ≤ w ∧ w < 5) : zMM G 1 KX12_logged [zP x, zI a, zI w] lay (rC x σ C0) nx (0, 0) (zR (some (zI (σ 1 (126 + 5 * a + w)))) lay (rC x (σ) C0) nx) := by
  refine z_met' (L := [zP x, zI a, zI w]) gX12_logged.1 rfl rfl (Nat.le_of_ble_eq_true rfl) rfl ?_
  refine z_al0 eX12_logged_0 hR.ne ?_
  refine z_ra lX12_7 eX12_logged_1 rfl hR rfl ?_
  refine z_bipush eX12_logged_4 (by decide) ?_
  refine z_iconst eX12_logged_6 ?_
  refine z_il1 eX12_logged_7 ?_
  refine z_imul eX12_logged_8 ?_
  refine z_iadd eX12_logged_9 ?_
  refine z_il2 eX12_logged_10 ?_
  refine z_iadd eX12_logged_11 ?_
  refine z_rl eX12_logged_12 hR (by decide) rfl rfl ⟨by omega, by omega⟩ ?_
  refine z_ireturn eX12_logged_13 rfl ?_
  first | exact ⟨rfl, rfl, rfl, rfl⟩ | exact zRb1 (by omega) | exact zRb0 (by omega) | exact zRe (by omega)
/-- of the rows from the n-th newest on: how many led a motion, and its sky in the newest of them -/
def qLedN (M : Int → Int) (k : Int) : Nat → Int × Int → Int × Int
  | 0, r => r
  | n + 1, r => qLedN M k n (if M (126 + 5 * (n : Int) + 2) = k then (r.1 + 1, M (126 + 5 * (n : Int) + 3)) else r)
def qLed (M : Int → Int) (k w : Int) : Int := if w = 1 then (qLedN M k (M 11).toNat (0, -1)).2 else (qLedN M k (M 11).toNat (0, -1)).1
theorem zInv.G {M : Int → Int} (h : zInv M) {i : Int} (hi : 0 ≤ i ∧ i < 300) : 0 ≤ M (126 + i) ∧ M (126 + i) ≤ 9999 :=
  h.at (lo := 0) (hi := 9999) (zBd_G hi) ⟨by omega, by omega⟩ (by unfold zFree; omega)
theorem m_X12_led {G : zG} {lay : zLay} {σ C0 : zMem} {nx x : Int} {k w : Int} (hR : RefL lay x) (hM : zOK (σ 1)) (hk : zin k) (hw : w = 0 ∨ w = 1) : zMM G 3 KX12_led [zP x, zI k, zI w] lay (rC x σ C0) nx (0, 0) (zR (some (zI (if 0 ≤ k ∧ k < σ 1 4 then qLed (σ 1) k w else 0))) lay (rC x (zset σ 0 0 (if 0 ≤ k ∧ k < σ 1 4 then 0 else 1)) C0) nx) := by
  refine z_met' (L := [zP x, zI k, zI w, zU, zU, zU]) gX12_led.1 rfl rfl (Nat.le_of_ble_eq_true rfl) rfl ?_
  obtain ⟨k1, k2⟩ := hk
  have hm4 := hM.1.m4
  have h11 := hM.1.s 11 rfl (by omega)
  by_cases hok : 0 ≤ k ∧ k < σ 1 4
  · rw [if_pos hok, if_pos hok]
    generalize hS : zset σ 0 0 0 = S
    have hS1 : S 1 = σ 1 := by rw [← hS]; exact zset_001
    have hl : ∀ (n : Nat) (r q : Int × Int), (n : Int) ≤ 60 → qLedN (σ 1) k n r = q → zW G KX12_led 3 (zR (some (zI (if w = 1 then q.2 else q.1))) lay (rC x S C0) nx) 42 [zP x, zI k, zI w, zI r.1, zI r.2, zI ((n : Int) - 1)] [] lay (rC x S C0) nx (0, 0) := by
      intro n
      induction n with
      | zero =>
        intro r q hn hq
        have hq2 : r = q := hq
        subst hq2
        refine z_il5 eX12_led_42 ?_
        refine z_if_lt (tgt := 79) eX12_led_44 rfl ⟨by omega, by omega⟩ (fun h44 => ?_) (fun h44 => (by exfalso; omega))
        refine z_il2 eX12_led_79 ?_
        refine z_if_eq (tgt := 88) eX12_led_80 rfl ⟨by omega, by omega⟩ (fun h80 => ?_) (fun h80 => ?_)
        · refine z_il3 eX12_led_88 ?_
          refine z_ireturn eX12_led_89 rfl ?_
          first | (rw [if_pos (by omega)]; exact ⟨rfl, rfl, rfl, rfl⟩) | (rw [if_neg (by omega)]; exact ⟨rfl, rfl, rfl, rfl⟩)
        · refine z_il4 eX12_led_83 ?_
          refine z_goto eX12_led_85 (tgt := 89) rfl ?_
          refine z_ireturn eX12_led_89 rfl ?_
          first | (rw [if_pos (by omega)]; exact ⟨rfl, rfl, rfl, rfl⟩) | (rw [if_neg (by omega)]; exact ⟨rfl, rfl, rfl, rfl⟩)
      | succ n ih =>
        intro r q hn hq
        rw [show ((n + 1 : Nat) : Int) - 1 = n by omega]
        have hG := hM.1.G (i := 5 * (n : Int) + 2) ⟨by omega, by omega⟩
        rw [show 126 + (5 * (n : Int) + 2) = 126 + 5 * (n : Int) + 2 by omega] at hG
        unfold qLedN at hq
        refine z_il5 eX12_led_42 ?_
        refine z_if_lt (tgt := 79) eX12_led_44 rfl ⟨by omega, by omega⟩ (fun h44 => (by exfalso; omega)) (fun h44 => ?_)
        refine z_al0 eX12_led_47 hR.ne ?_
        refine z_il5 eX12_led_48 ?_
        refine z_iconst eX12_led_50 ?_
        refine z_V2 eX12_led_51 vX12_453 rfl rfl (Nat.le_of_ble_eq_true rfl) (Nat.le_of_ble_eq_true rfl) hR.x (m_X12_logged hR ⟨by omega, by omega⟩ ⟨by omega, by omega⟩) ?_
        try rw [hS1]
        refine z_il1 eX12_led_54 ?_
        refine z_icmp_eq (tgt := 61) eX12_led_55 rfl ⟨⟨by omega, by omega⟩, ⟨by omega, by omega⟩⟩ (fun h55 => ?_) (fun h55 => ?_)
        · refine z_ii3 eX12_led_61 (Nat.ne_of_beq_eq_false rfl) ?_
          refine z_al0 eX12_led_64 hR.ne ?_
          refine z_il5 eX12_led_65 ?_
          refine z_iconst eX12_led_67 ?_
          refine z_V2 eX12_led_68 vX12_453 rfl rfl (Nat.le_of_ble_eq_true rfl) (Nat.le_of_ble_eq_true rfl) hR.x (m_X12_logged hR ⟨by omega, by omega⟩ ⟨by omega, by omega⟩) ?_
          try rw [hS1]
          refine z_is4 eX12_led_71 (Nat.ne_of_beq_eq_false rfl) ?_
          refine z_ii5 eX12_led_73 (Nat.ne_of_beq_eq_false rfl) ?_
          refine z_goto eX12_led_76 (tgt := 42) rfl ?_
          first | (rw [if_pos h55] at hq; exact ih (r.1 + 1, σ 1 (126 + 5 * (n : Int) + 3)) q (by omega) hq) | (rw [if_neg h55] at hq; exact ih r q (by omega) hq) | fail
        · refine z_goto eX12_led_58 (tgt := 73) rfl ?_
          refine z_ii5 eX12_led_73 (Nat.ne_of_beq_eq_false rfl) ?_
          refine z_goto eX12_led_76 (tgt := 42) rfl ?_
          first | (rw [if_pos h55] at hq; exact ih (r.1 + 1, σ 1 (126 + 5 * (n : Int) + 3)) q (by omega) hq) | (rw [if_neg h55] at hq; exact ih r q (by omega) hq) | fail
    have h0 := hl (σ 1 11).toNat (0, -1) _ (by omega) rfl
    rw [Int.toNat_of_nonneg h11.1] at h0
    refine z_al0 eX12_led_0 hR.ne ?_
    refine z_al0 eX12_led_1 hR.ne ?_
    refine z_il1 eX12_led_2 ?_
    refine z_V1 eX12_led_3 vX12_326 rfl rfl (Nat.le_of_ble_eq_true rfl) (Nat.le_of_ble_eq_true rfl) hR.x (m_X12_isMotion hR ⟨by omega, by omega⟩ hm4) ?_
    try rw [hS1]
    refine z_ifb_ne (tgt := 13) eX12_led_6 rfl (fun h6 => ?_) (fun h6 => absurd hok h6)
    refine z_iconst eX12_led_13 ?_
    refine z_rp (j := 0) lX12_48 eX12_led_14 rfl hR rfl rfl ?_
    rw [hS]
    refine z_al0 eX12_led_17 hR.ne ?_
    refine z_rg (j := 0) lX12_48 eX12_led_18 rfl hR rfl rfl ?_
    try rw [hS1]
    rw [← hS, zset_eq, hS]
    refine z_if_le (tgt := 26) eX12_led_21 rfl ⟨by omega, by omega⟩ (fun h21 => ?_) (fun h21 => (by exfalso; omega))
    refine z_iconst eX12_led_26 ?_
    refine z_is3 eX12_led_27 (Nat.ne_of_beq_eq_false rfl) ?_
    refine z_iconst eX12_led_28 ?_
    refine z_is4 eX12_led_29 (Nat.ne_of_beq_eq_false rfl) ?_
    refine z_al0 eX12_led_31 hR.ne ?_
    refine z_ra lX12_7 eX12_led_32 rfl hR rfl ?_
    try rw [hS1]
    refine z_bipush eX12_led_35 (by decide) ?_
    refine z_rl eX12_led_37 hR (by decide) rfl rfl ⟨by omega, by omega⟩ ?_
    try rw [hS1]
    refine z_iconst eX12_led_38 ?_
    refine z_isub eX12_led_39 ?_
    refine z_is5 eX12_led_40 (Nat.ne_of_beq_eq_false rfl) ?_
    exact h0
  · rw [if_neg hok, if_neg hok]
    refine z_al0 eX12_led_0 hR.ne ?_
    refine z_al0 eX12_led_1 hR.ne ?_
    refine z_il1 eX12_led_2 ?_
    refine z_V1 eX12_led_3 vX12_326 rfl rfl (Nat.le_of_ble_eq_true rfl) (Nat.le_of_ble_eq_true rfl) hR.x (m_X12_isMotion hR ⟨by omega, by omega⟩ hm4) ?_
    refine z_ifb_ne (tgt := 13) eX12_led_6 rfl (fun h6 => absurd h6 hok) (fun h6 => ?_)
    refine z_iconst eX12_led_9 ?_
    refine z_goto eX12_led_10 (tgt := 14) rfl ?_
    refine z_rp (j := 0) lX12_48 eX12_led_14 rfl hR rfl rfl ?_
    refine z_al0 eX12_led_17 hR.ne ?_
    refine z_rg (j := 0) lX12_48 eX12_led_18 rfl hR rfl rfl ?_
    rw [zset_eq]
    refine z_if_le (tgt := 26) eX12_led_21 rfl ⟨by omega, by omega⟩ (fun h21 => (by exfalso; omega)) (fun h21 => ?_)
    refine z_iconst eX12_led_24 ?_
    refine z_ireturn eX12_led_25 rfl ?_
    first | exact ⟨rfl, rfl, rfl, rfl⟩ | exact zRb1 (by omega) | exact zRb0 (by omega) | exact zRe (by omega)
theorem m_X12_log {G : zG} {lay : zLay} {σ C0 : zMem} {nx x : Int} {a w : Int} (hR : RefL lay x) (hM : zOK (σ 1)) (ha : zin a) (hw : zin w) : zMM G 2 KX12_log [zP x, zI a, zI w] lay (rC x σ C0) nx (0, 0) (zR (some (zI (if 0 ≤ w ∧ w ≤ 4 then (if 0 ≤ a ∧ a ≤ σ 1 11 - 1 then σ 1 (126 + 5 * a + w) else -1) else 0))) lay (rC x (zset σ 0 0 (if 0 ≤ w ∧ w ≤ 4 then 0 else 1)) C0) nx) := by
  refine z_met' (L := [zP x, zI a, zI w]) gX12_log.1 rfl rfl (Nat.le_of_ble_eq_true rfl) rfl ?_
  obtain ⟨a1, a2⟩ := ha
  obtain ⟨w1, w2⟩ := hw
  have h11 := hM.1.s 11 rfl (by omega)
  refine z_al0 eX12_log_0 hR.ne ?_
  refine z_il2 eX12_log_1 ?_
  refine z_iconst eX12_log_2 ?_
  refine z_iconst eX12_log_3 ?_
  refine z_S3 eX12_log_4 vX12_51 rfl rfl (Nat.le_of_ble_eq_true rfl) (Nat.le_of_ble_eq_true rfl) (m_X12_isIn (by refine ⟨?_, ?_, ?_⟩ <;> first | omega | decide | assumption)) ?_
  try rw [zset_001]
  refine z_ifb_ne (tgt := 14) eX12_log_7 rfl (fun h7 => ?_) (fun h7 => ?_)
  · refine z_iconst eX12_log_14 ?_
    refine z_rp (j := 0) lX12_48 eX12_log_15 rfl hR rfl rfl ?_
    refine z_al0 eX12_log_18 hR.ne ?_
    refine z_rg (j := 0) lX12_48 eX12_log_19 rfl hR rfl rfl ?_
    try rw [zset_001]
    rw [zset_eq]
    refine z_if_le (tgt := 27) eX12_log_22 rfl ⟨by omega, by omega⟩ (fun h22 => ?_) (fun h22 => (by exfalso; omega))
    refine z_il1 eX12_log_27 ?_
    refine z_iconst eX12_log_28 ?_
    refine z_al0 eX12_log_29 hR.ne ?_
    refine z_ra lX12_7 eX12_log_30 rfl hR rfl ?_
    try rw [zset_001]
    refine z_bipush eX12_log_33 (by decide) ?_
    refine z_rl eX12_log_35 hR (by decide) rfl rfl ⟨by omega, by omega⟩ ?_
    try rw [zset_001]
    refine z_iconst eX12_log_36 ?_
    refine z_isub eX12_log_37 ?_
    refine z_S3 eX12_log_38 vX12_51 rfl rfl (Nat.le_of_ble_eq_true rfl) (Nat.le_of_ble_eq_true rfl) (m_X12_isIn (by refine ⟨?_, ?_, ?_⟩ <;> first | omega | decide | assumption)) ?_
    try rw [zset_001]
    refine z_ifb_eq (tgt := 53) eX12_log_41 rfl (fun h41 => ?_) (fun h41 => ?_)
    · refine z_iconst eX12_log_53 ?_
      refine z_ireturn eX12_log_54 rfl ?_
      rw [if_pos (show 0 ≤ w ∧ w ≤ 4 by omega), if_pos (show 0 ≤ w ∧ w ≤ 4 by omega)]; first | (rw [if_pos (by omega)]; exact ⟨rfl, rfl, rfl, rfl⟩) | (rw [if_neg (by omega)]; exact ⟨rfl, rfl, rfl, rfl⟩)
    · refine z_al0 eX12_log_44 hR.ne ?_
      refine z_il1 eX12_log_45 ?_
      refine z_il2 eX12_log_46 ?_
      refine z_V2 eX12_log_47 vX12_453 rfl rfl (Nat.le_of_ble_eq_true rfl) (Nat.le_of_ble_eq_true rfl) hR.x (m_X12_logged hR ⟨by omega, by omega⟩ ⟨by omega, by omega⟩) ?_
      try rw [zset_001]
      refine z_goto eX12_log_50 (tgt := 54) rfl ?_
      refine z_ireturn eX12_log_54 rfl ?_
      rw [if_pos (show 0 ≤ w ∧ w ≤ 4 by omega), if_pos (show 0 ≤ w ∧ w ≤ 4 by omega)]; first | (rw [if_pos (by omega)]; exact ⟨rfl, rfl, rfl, rfl⟩) | (rw [if_neg (by omega)]; exact ⟨rfl, rfl, rfl, rfl⟩)
  · refine z_iconst eX12_log_10 ?_
    refine z_goto eX12_log_11 (tgt := 15) rfl ?_
    refine z_rp (j := 0) lX12_48 eX12_log_15 rfl hR rfl rfl ?_
    refine z_al0 eX12_log_18 hR.ne ?_
    refine z_rg (j := 0) lX12_48 eX12_log_19 rfl hR rfl rfl ?_
    try rw [zset_001]
    rw [zset_eq]
    refine z_if_le (tgt := 27) eX12_log_22 rfl ⟨by omega, by omega⟩ (fun h22 => (by exfalso; omega)) (fun h22 => ?_)
    refine z_iconst eX12_log_25 ?_
    refine z_ireturn eX12_log_26 rfl ?_
    rw [if_neg (by omega), if_neg (by omega)]; exact ⟨rfl, rfl, rfl, rfl⟩
theorem m_X12_seed {G : zG} {lay : zLay} {σ C0 : zMem} {nx x : Int} {n : Int} (hR : RefL lay x) : zMM G 1 KX12_seed [zP x, zI n] lay (rC x σ C0) nx (0, 0) (zR (some (zI (σ 1 12))) lay (rC x (zset (zset σ 0 0 0) 1 12 n) C0) nx) := by
  refine z_met' (L := [zP x, zI n, zU]) gX12_seed.1 rfl rfl (Nat.le_of_ble_eq_true rfl) rfl ?_
  refine z_al0 eX12_seed_0 hR.ne ?_
  refine z_iconst eX12_seed_1 ?_
  refine z_rp (j := 0) lX12_48 eX12_seed_2 rfl hR rfl rfl ?_
  refine z_al0 eX12_seed_5 hR.ne ?_
  refine z_ra lX12_7 eX12_seed_6 rfl hR rfl ?_
  try rw [zset_001]
  refine z_bipush eX12_seed_9 (by decide) ?_
  refine z_rl eX12_seed_11 hR (by decide) rfl rfl ⟨by omega, by omega⟩ ?_
  try rw [zset_001]
  refine z_is2 eX12_seed_12 (Nat.ne_of_beq_eq_false rfl) ?_
  refine z_al0 eX12_seed_13 hR.ne ?_
  refine z_ra lX12_7 eX12_seed_14 rfl hR rfl ?_
  try rw [zset_001]
  refine z_bipush eX12_seed_17 (by decide) ?_
  refine z_il1 eX12_seed_19 ?_
  refine z_rs eX12_seed_20 hR (by decide) rfl rfl ⟨by omega, by omega⟩ ?_
  refine z_il2 eX12_seed_21 ?_
  refine z_ireturn eX12_seed_22 rfl ?_
  first | exact ⟨rfl, rfl, rfl, rfl⟩ | exact zRb1 (by omega) | exact zRb0 (by omega) | exact zRe (by omega)
/-- a row put back from those remembered -/
def qUnd (A M : Int → Int) (b n : Int) : Int → Int := fun j => if 0 ≤ j ∧ j < n then A (b + j) else M j
theorem qUnd_s (A M : Int → Int) (b : Int) {n : Int} (h : 0 ≤ n) : zput (qUnd A M b n) n (A (b + n)) = qUnd A M b (n + 1) := by
  funext j
  unfold zput qUnd
  by_cases e : j = n
  · rw [if_pos e, if_pos ⟨by omega, by omega⟩, e]
  · rw [if_neg e]
    by_cases h2 : 0 ≤ j ∧ j < n
    · rw [if_pos h2, if_pos (by omega)]
    · rw [if_neg h2, if_neg (by omega)]
theorem qUnd_0 (A M : Int → Int) (b : Int) : qUnd A M b 0 = M := by funext j; exact if_neg (by omega)
theorem m_X12_undo {G : zG} {lay : zLay} {σ C0 : zMem} {nx x : Int} (hR : RefL lay x) (ha : 0 ≤ σ 0 6 ∧ σ 0 6 ≤ 12) : zMM G 1 KX12_undo [zP x] lay (rC x σ C0) nx (0, 0) (zR (some (zI (if σ 0 6 = 0 then 0 else 1))) lay (rC x ((if σ 0 6 = 0 then zset σ 0 0 0 else zRow (zset (zset σ 0 0 0) 0 6 (σ 0 6 - 1)) 1 (qUnd (σ 4) (σ 1) (426 * (σ 0 6 - 1)) 426))) C0) nx) := by
  refine z_met' (L := [zP x, zU]) gX12_undo.1 rfl rfl (Nat.le_of_ble_eq_true rfl) rfl ?_
  have e6 : zset σ 0 0 0 0 6 = σ 0 6 := zset_f (by decide)
  by_cases h0 : σ 0 6 = 0
  · rw [if_pos h0, if_pos h0]
    refine z_al0 eX12_undo_0 hR.ne ?_
    refine z_iconst eX12_undo_1 ?_
    refine z_rp (j := 0) lX12_48 eX12_undo_2 rfl hR rfl rfl ?_
    refine z_al0 eX12_undo_5 hR.ne ?_
    refine z_rg (j := 6) lX12_213 eX12_undo_6 rfl hR rfl rfl ?_
    rw [e6]
    refine z_if_ne (tgt := 14) eX12_undo_9 rfl ⟨by omega, by omega⟩ (fun h9 => (by exfalso; omega)) (fun h9 => ?_)
    refine z_iconst eX12_undo_12 ?_
    refine z_zreturn eX12_undo_13 rfl (by first | exact Or.inl rfl | exact Or.inr rfl | exact zbi_01 _ | assumption | omega) ?_
    first | exact ⟨rfl, rfl, rfl, rfl⟩ | exact zRb1 (by omega) | exact zRb0 (by omega) | exact zRe (by omega)
  · rw [if_neg h0, if_neg h0]
    obtain ⟨S, hS, s6, s4, s1⟩ : ∃ S, zset (zset σ 0 0 0) 0 6 (σ 0 6 - 1) = S ∧ S 0 6 = σ 0 6 - 1 ∧ S 4 = σ 4 ∧ S 1 = σ 1 := ⟨_, rfl, zset_eq, by rw [zset_o (by decide), zset_o (by decide)], by rw [zset_o (by decide), zset_o (by decide)]⟩
    rw [hS]
    have hl : ∀ n : Int, 0 ≤ n → n ≤ 426 → zW G KX12_undo 1 (zR (some (zI 1)) lay (rC x (zRow S 1 (qUnd (σ 4) (σ 1) (426 * (σ 0 6 - 1)) 426)) C0) nx) 26 [zP x, zI n] [] lay (rC x (zRow S 1 (qUnd (σ 4) (σ 1) (426 * (σ 0 6 - 1)) n)) C0) nx (0, 0) := by
      refine z_up 426 ?_ ?_
      · skip
        refine z_il1 eX12_undo_26 ?_
        refine z_sipush eX12_undo_27 (by decide) ?_
        refine z_icmp_ge (tgt := 60) eX12_undo_30 rfl ⟨⟨by omega, by omega⟩, ⟨by omega, by omega⟩⟩ (fun h30 => ?_) (fun h30 => (by exfalso; omega))
        refine z_iconst eX12_undo_60 ?_
        refine z_zreturn eX12_undo_61 rfl (by first | exact Or.inl rfl | exact Or.inr rfl | exact zbi_01 _ | assumption | omega) ?_
        first | exact ⟨rfl, rfl, rfl, rfl⟩ | exact zRb1 (by omega) | exact zRb0 (by omega) | exact zRe (by omega)
      · intro n n0 n1 ih
        refine z_il1 eX12_undo_26 ?_
        refine z_sipush eX12_undo_27 (by decide) ?_
        refine z_icmp_ge (tgt := 60) eX12_undo_30 rfl ⟨⟨by omega, by omega⟩, ⟨by omega, by omega⟩⟩ (fun h30 => (by exfalso; omega)) (fun h30 => ?_)
        refine z_al0 eX12_undo_33 hR.ne ?_
        refine z_ra lX12_7 eX12_undo_34 rfl hR rfl ?_
        refine z_il1 eX12_undo_37 ?_
        refine z_al0 eX12_undo_38 hR.ne ?_
        refine z_ra lX12_19 eX12_undo_39 rfl hR rfl ?_
        refine z_sipush eX12_undo_42 (by decide) ?_
        refine z_al0 eX12_undo_45 hR.ne ?_
        refine z_rg (j := 6) lX12_213 eX12_undo_46 rfl hR rfl rfl ?_
        rw [zRow_o (by decide), s6]
        refine z_imul eX12_undo_49 ?_
        refine z_il1 eX12_undo_50 ?_
        refine z_iadd eX12_undo_51 ?_
        refine z_rl eX12_undo_52 hR (by decide) rfl rfl ⟨by omega, by omega⟩ ?_
        rw [zRow_o (by decide), s4]
        refine z_rs eX12_undo_53 hR (by decide) rfl rfl ⟨by omega, by omega⟩ ?_
        rw [zRow_put, qUnd_s _ _ _ n0]
        refine z_ii1 eX12_undo_54 (Nat.ne_of_beq_eq_false rfl) ?_
        refine z_goto eX12_undo_57 (tgt := 26) rfl ?_
        exact ih
    have h1 := hl 0 (by decide) (by decide)
    rw [qUnd_0, ← s1, zRow_self] at h1
    rw [s1] at h1
    refine z_al0 eX12_undo_0 hR.ne ?_
    refine z_iconst eX12_undo_1 ?_
    refine z_rp (j := 0) lX12_48 eX12_undo_2 rfl hR rfl rfl ?_
    refine z_al0 eX12_undo_5 hR.ne ?_
    refine z_rg (j := 6) lX12_213 eX12_undo_6 rfl hR rfl rfl ?_
    rw [e6]
    refine z_if_ne (tgt := 14) eX12_undo_9 rfl ⟨by omega, by omega⟩ (fun h9 => ?_) (fun h9 => (by exfalso; omega))
    refine z_al0 eX12_undo_14 hR.ne ?_
    refine z_dup eX12_undo_15 (Nat.ne_of_beq_eq_false rfl) ?_
    refine z_rg (j := 6) lX12_213 eX12_undo_16 rfl hR rfl rfl ?_
    rw [e6]
    refine z_iconst eX12_undo_19 ?_
    refine z_isub eX12_undo_20 ?_
    refine z_rp (j := 6) lX12_213 eX12_undo_21 rfl hR rfl rfl ?_
    rw [hS]
    refine z_iconst eX12_undo_24 ?_
    refine z_is1 eX12_undo_25 (Nat.ne_of_beq_eq_false rfl) ?_
    exact h1
theorem m_X12_image {G : zG} {lay : zLay} {σ C0 : zMem} {nx x : Int} (hR : RefL lay x) : zMM G 1 KX12_image [zP x] lay (rC x σ C0) nx (0, 0) (zR none lay (rC x (zset (zRow (zset σ 0 0 0) 2 (qcopy (σ 1) (σ 2) 826)) 0 3 1) C0) nx) := by
  refine z_met' (L := [zP x, zU]) gX12_image.1 rfl rfl (Nat.le_of_ble_eq_true rfl) rfl ?_
  generalize hS : zset σ 0 0 0 = S
  have hS1 : S 1 = σ 1 := by rw [← hS]; exact zset_001
  have hS2 : S 2 = σ 2 := by rw [← hS]; exact zset_o (by decide)
  have hl : ∀ n : Int, 0 ≤ n → n ≤ 826 → zW G KX12_image 1 (zR none lay (rC x (zset (zRow S 2 (qcopy (σ 1) (σ 2) 826)) 0 3 1) C0) nx) 7 [zP x, zI n] [] lay (rC x (zRow S 2 (qcopy (σ 1) (σ 2) n)) C0) nx (0, 0) := by
    refine z_up 826 ?_ ?_
    · skip
      refine z_il1 eX12_image_7 ?_
      refine z_sipush eX12_image_8 (by decide) ?_
      refine z_icmp_ge (tgt := 32) eX12_image_11 rfl ⟨⟨by omega, by omega⟩, ⟨by omega, by omega⟩⟩ (fun h11 => ?_) (fun h11 => (by exfalso; omega))
      refine z_al0 eX12_image_32 hR.ne ?_
      refine z_iconst eX12_image_33 ?_
      refine z_rpz (j := 3) lX12_456 eX12_image_34 rfl hR rfl rfl (by first | exact Or.inl rfl | exact Or.inr rfl | assumption | omega) ?_
      refine z_return eX12_image_37 rfl ?_
      exact ⟨rfl, rfl, rfl, rfl⟩
    · intro n n0 n1 ih
      refine z_il1 eX12_image_7 ?_
      refine z_sipush eX12_image_8 (by decide) ?_
      refine z_icmp_ge (tgt := 32) eX12_image_11 rfl ⟨⟨by omega, by omega⟩, ⟨by omega, by omega⟩⟩ (fun h11 => (by exfalso; omega)) (fun h11 => ?_)
      refine z_al0 eX12_image_14 hR.ne ?_
      refine z_ra lX12_13 eX12_image_15 rfl hR rfl ?_
      refine z_il1 eX12_image_18 ?_
      refine z_al0 eX12_image_19 hR.ne ?_
      refine z_ra lX12_7 eX12_image_20 rfl hR rfl ?_
      refine z_il1 eX12_image_23 ?_
      refine z_rl eX12_image_24 hR (by decide) rfl rfl ⟨by omega, by omega⟩ ?_
      rw [zRow_o (by decide), hS1]
      refine z_rs eX12_image_25 hR (by decide) rfl rfl ⟨by omega, by omega⟩ ?_
      rw [zRow_put, qcopy_s _ _ n0]
      refine z_ii1 eX12_image_26 (Nat.ne_of_beq_eq_false rfl) ?_
      refine z_goto eX12_image_29 (tgt := 7) rfl ?_
      exact ih
  have h0 := hl 0 (by decide) (by decide)
  rw [qcopy_0, ← hS2, zRow_self] at h0
  rw [hS2] at h0
  refine z_al0 eX12_image_0 hR.ne ?_
  refine z_iconst eX12_image_1 ?_
  refine z_rp (j := 0) lX12_48 eX12_image_2 rfl hR rfl rfl ?_
  rw [hS]
  refine z_iconst eX12_image_5 ?_
  refine z_is1 eX12_image_6 (Nat.ne_of_beq_eq_false rfl) ?_
  exact h0
theorem m_X12_back {G : zG} {lay : zLay} {σ C0 : zMem} {nx x : Int} (hR : RefL lay x) (h3 : σ 0 3 = 0 ∨ σ 0 3 = 1) : zMM G 1 KX12_back [zP x] lay (rC x σ C0) nx (0, 0) (zR (some (zI (σ 0 3))) lay (rC x ((if σ 0 3 = 0 then zset σ 0 0 0 else zset (zRow (zset σ 0 0 0) 1 (qcopy (σ 2) (σ 1) 826)) 0 6 0)) C0) nx) := by
  refine z_met' (L := [zP x, zU]) gX12_back.1 rfl rfl (Nat.le_of_ble_eq_true rfl) rfl ?_
  have e3 : zset σ 0 0 0 0 3 = σ 0 3 := zset_f (by decide)
  by_cases h0 : σ 0 3 = 0
  · rw [if_pos h0, h0]
    refine z_al0 eX12_back_0 hR.ne ?_
    refine z_iconst eX12_back_1 ?_
    refine z_rp (j := 0) lX12_48 eX12_back_2 rfl hR rfl rfl ?_
    refine z_al0 eX12_back_5 hR.ne ?_
    refine z_rg (j := 3) lX12_456 eX12_back_6 rfl hR rfl rfl ?_
    rw [e3]
    refine z_if_ne (tgt := 14) eX12_back_9 rfl ⟨by omega, by omega⟩ (fun h9 => (by exfalso; omega)) (fun h9 => ?_)
    refine z_iconst eX12_back_12 ?_
    refine z_zreturn eX12_back_13 rfl (by first | exact Or.inl rfl | exact Or.inr rfl | exact zbi_01 _ | assumption | omega) ?_
    first | exact ⟨rfl, rfl, rfl, rfl⟩ | exact zRb1 (by omega) | exact zRb0 (by omega) | exact zRe (by omega)
  · rw [if_neg h0, show σ 0 3 = 1 by omega]
    generalize hS : zset σ 0 0 0 = S
    have hS1 : S 1 = σ 1 := by rw [← hS]; exact zset_001
    have hS2 : S 2 = σ 2 := by rw [← hS]; exact zset_o (by decide)
    have e3' : S 0 3 = σ 0 3 := by rw [← hS]; exact e3
    have hl : ∀ n : Int, 0 ≤ n → n ≤ 826 → zW G KX12_back 1 (zR (some (zI 1)) lay (rC x (zset (zRow S 1 (qcopy (σ 2) (σ 1) 826)) 0 6 0) C0) nx) 16 [zP x, zI n] [] lay (rC x (zRow S 1 (qcopy (σ 2) (σ 1) n)) C0) nx (0, 0) := by
      refine z_up 826 ?_ ?_
      · skip
        refine z_il1 eX12_back_16 ?_
        refine z_sipush eX12_back_17 (by decide) ?_
        refine z_icmp_ge (tgt := 41) eX12_back_20 rfl ⟨⟨by omega, by omega⟩, ⟨by omega, by omega⟩⟩ (fun h20 => ?_) (fun h20 => (by exfalso; omega))
        refine z_al0 eX12_back_41 hR.ne ?_
        refine z_iconst eX12_back_42 ?_
        refine z_rp (j := 6) lX12_213 eX12_back_43 rfl hR rfl rfl ?_
        refine z_iconst eX12_back_46 ?_
        refine z_zreturn eX12_back_47 rfl (by first | exact Or.inl rfl | exact Or.inr rfl | exact zbi_01 _ | assumption | omega) ?_
        first | exact ⟨rfl, rfl, rfl, rfl⟩ | exact zRb1 (by omega) | exact zRb0 (by omega) | exact zRe (by omega)
      · intro n n0 n1 ih
        refine z_il1 eX12_back_16 ?_
        refine z_sipush eX12_back_17 (by decide) ?_
        refine z_icmp_ge (tgt := 41) eX12_back_20 rfl ⟨⟨by omega, by omega⟩, ⟨by omega, by omega⟩⟩ (fun h20 => (by exfalso; omega)) (fun h20 => ?_)
        refine z_al0 eX12_back_23 hR.ne ?_
        refine z_ra lX12_7 eX12_back_24 rfl hR rfl ?_
        refine z_il1 eX12_back_27 ?_
        refine z_al0 eX12_back_28 hR.ne ?_
        refine z_ra lX12_13 eX12_back_29 rfl hR rfl ?_
        refine z_il1 eX12_back_32 ?_
        refine z_rl eX12_back_33 hR (by decide) rfl rfl ⟨by omega, by omega⟩ ?_
        rw [zRow_o (by decide), hS2]
        refine z_rs eX12_back_34 hR (by decide) rfl rfl ⟨by omega, by omega⟩ ?_
        rw [zRow_put, qcopy_s _ _ n0]
        refine z_ii1 eX12_back_35 (Nat.ne_of_beq_eq_false rfl) ?_
        refine z_goto eX12_back_38 (tgt := 16) rfl ?_
        exact ih
    have h1 := hl 0 (by decide) (by decide)
    rw [qcopy_0, ← hS1, zRow_self] at h1
    rw [hS1] at h1
    refine z_al0 eX12_back_0 hR.ne ?_
    refine z_iconst eX12_back_1 ?_
    refine z_rp (j := 0) lX12_48 eX12_back_2 rfl hR rfl rfl ?_
    rw [hS]
    refine z_al0 eX12_back_5 hR.ne ?_
    refine z_rg (j := 3) lX12_456 eX12_back_6 rfl hR rfl rfl ?_
    rw [e3']
    refine z_if_ne (tgt := 14) eX12_back_9 rfl ⟨by omega, by omega⟩ (fun h9 => ?_) (fun h9 => (by exfalso; omega))
    refine z_iconst eX12_back_14 ?_
    refine z_is1 eX12_back_15 (Nat.ne_of_beq_eq_false rfl) ?_
    exact h1
def qCount (σ : zMem) (w : Int) : Int := if w = 0 then σ 1 3 else if w = 1 then σ 1 4 else if w = 2 then σ 1 0 else if w = 3 then σ 1 1 else if 4 ≤ w ∧ w ≤ 9 then σ 1 (5 + w - 4) else if 10 ≤ w ∧ w ≤ 11 then qInSt (σ 1) (w - 10) else if w = 12 then qOuts (σ 1) else if w = 13 then σ 1 11 else if w = 14 then σ 0 6 else -1
theorem m_X12_count {G : zG} {lay : zLay} {σ C0 : zMem} {nx x : Int} {w : Int} (hR : RefL lay x) (hM : zOK (σ 1)) (hw : zin w) : zMM G 3 KX12_count [zP x, zI w] lay (rC x σ C0) nx (0, 0) (zR (some (zI (qCount σ w))) lay (rC x (zset σ 0 0 0) C0) nx) := by
  refine z_met' (L := [zP x, zI w]) gX12_count.1 rfl rfl (Nat.le_of_ble_eq_true rfl) rfl ?_
  obtain ⟨w1, w2⟩ := hw
  have hm3 := hM.1.m3
  have hm4 := hM.1.m4
  unfold qCount
  refine z_al0 eX12_count_0 hR.ne ?_
  refine z_iconst eX12_count_1 ?_
  refine z_rp (j := 0) lX12_48 eX12_count_2 rfl hR rfl rfl ?_
  refine z_il1 eX12_count_5 ?_
  refine z_if_ne (tgt := 16) eX12_count_6 rfl ⟨by omega, by omega⟩ (fun h6 => ?_) (fun h6 => ?_)
  · refine z_il1 eX12_count_16 ?_
    refine z_iconst eX12_count_17 ?_
    refine z_icmp_ne (tgt := 28) eX12_count_18 rfl ⟨⟨by omega, by omega⟩, ⟨by omega, by omega⟩⟩ (fun h18 => ?_) (fun h18 => ?_)
    · refine z_il1 eX12_count_28 ?_
      refine z_iconst eX12_count_29 ?_
      refine z_icmp_ne (tgt := 40) eX12_count_30 rfl ⟨⟨by omega, by omega⟩, ⟨by omega, by omega⟩⟩ (fun h30 => ?_) (fun h30 => ?_)
      · refine z_il1 eX12_count_40 ?_
        refine z_iconst eX12_count_41 ?_
        refine z_icmp_ne (tgt := 52) eX12_count_42 rfl ⟨⟨by omega, by omega⟩, ⟨by omega, by omega⟩⟩ (fun h42 => ?_) (fun h42 => ?_)
        · refine z_il1 eX12_count_52 ?_
          refine z_iconst eX12_count_53 ?_
          refine z_bipush eX12_count_54 (by decide) ?_
          refine z_S3 eX12_count_56 vX12_51 rfl rfl (Nat.le_of_ble_eq_true rfl) (Nat.le_of_ble_eq_true rfl) (m_X12_isIn (by refine ⟨?_, ?_, ?_⟩ <;> first | omega | decide | assumption)) ?_
          try rw [zset_001]
          refine z_ifb_eq (tgt := 73) eX12_count_59 rfl (fun h59 => ?_) (fun h59 => ?_)
          · refine z_il1 eX12_count_73 ?_
            refine z_bipush eX12_count_74 (by decide) ?_
            refine z_bipush eX12_count_76 (by decide) ?_
            refine z_S3 eX12_count_78 vX12_51 rfl rfl (Nat.le_of_ble_eq_true rfl) (Nat.le_of_ble_eq_true rfl) (m_X12_isIn (by refine ⟨?_, ?_, ?_⟩ <;> first | omega | decide | assumption)) ?_
            try rw [zset_001]
            refine z_ifb_eq (tgt := 93) eX12_count_81 rfl (fun h81 => ?_) (fun h81 => ?_)
            · refine z_il1 eX12_count_93 ?_
              refine z_bipush eX12_count_94 (by decide) ?_
              refine z_icmp_ne (tgt := 104) eX12_count_96 rfl ⟨⟨by omega, by omega⟩, ⟨by omega, by omega⟩⟩ (fun h96 => ?_) (fun h96 => ?_)
              · refine z_il1 eX12_count_104 ?_
                refine z_bipush eX12_count_105 (by decide) ?_
                refine z_icmp_ne (tgt := 118) eX12_count_107 rfl ⟨⟨by omega, by omega⟩, ⟨by omega, by omega⟩⟩ (fun h107 => ?_) (fun h107 => ?_)
                · refine z_il1 eX12_count_118 ?_
                  refine z_bipush eX12_count_119 (by decide) ?_
                  refine z_icmp_ne (tgt := 131) eX12_count_121 rfl ⟨⟨by omega, by omega⟩, ⟨by omega, by omega⟩⟩ (fun h121 => ?_) (fun h121 => ?_)
                  · refine z_iconst eX12_count_131 ?_
                    refine z_ireturn eX12_count_132 rfl ?_
                    rw [if_neg (by omega), if_neg (by omega), if_neg (by omega), if_neg (by omega), if_neg (by omega), if_neg (by omega), if_neg (by omega), if_neg (by omega)]; first | (rw [if_pos (by omega)]; exact ⟨rfl, rfl, rfl, rfl⟩) | (rw [if_neg (by omega)]; exact ⟨rfl, rfl, rfl, rfl⟩)
                  · refine z_al0 eX12_count_124 hR.ne ?_
                    refine z_rg (j := 6) lX12_213 eX12_count_125 rfl hR rfl rfl ?_
                    try rw [zset_001]
                    try rw [show zset σ 0 0 0 0 6 = σ 0 6 from zset_f (by decide)]
                    refine z_goto eX12_count_128 (tgt := 132) rfl ?_
                    refine z_ireturn eX12_count_132 rfl ?_
                    rw [if_neg (by omega), if_neg (by omega), if_neg (by omega), if_neg (by omega), if_neg (by omega), if_neg (by omega), if_neg (by omega), if_neg (by omega)]; first | (rw [if_pos (by omega)]; exact ⟨rfl, rfl, rfl, rfl⟩) | (rw [if_neg (by omega)]; exact ⟨rfl, rfl, rfl, rfl⟩)
                · refine z_al0 eX12_count_110 hR.ne ?_
                  refine z_ra lX12_7 eX12_count_111 rfl hR rfl ?_
                  try rw [zset_001]
                  refine z_bipush eX12_count_114 (by decide) ?_
                  refine z_rl eX12_count_116 hR (by decide) rfl rfl ⟨by omega, by omega⟩ ?_
                  try rw [zset_001]
                  refine z_ireturn eX12_count_117 rfl ?_
                  rw [if_neg (by omega), if_neg (by omega), if_neg (by omega), if_neg (by omega), if_neg (by omega), if_neg (by omega), if_neg (by omega), if_pos (by omega)]; exact ⟨rfl, rfl, rfl, rfl⟩
              · refine z_al0 eX12_count_99 hR.ne ?_
                refine z_V0 eX12_count_100 vX12_280 rfl rfl (Nat.le_of_ble_eq_true rfl) (Nat.le_of_ble_eq_true rfl) hR.x (m_X12_outs hR (by rw [zset_001]; exact hm3)) ?_
                try rw [zset_001]
                refine z_ireturn eX12_count_103 rfl ?_
                rw [if_neg (by omega), if_neg (by omega), if_neg (by omega), if_neg (by omega), if_neg (by omega), if_neg (by omega), if_pos (by omega)]; exact ⟨rfl, rfl, rfl, rfl⟩
            · refine z_al0 eX12_count_84 hR.ne ?_
              refine z_il1 eX12_count_85 ?_
              refine z_bipush eX12_count_86 (by decide) ?_
              refine z_isub eX12_count_88 ?_
              refine z_V1 eX12_count_89 vX12_450 rfl rfl (Nat.le_of_ble_eq_true rfl) (Nat.le_of_ble_eq_true rfl) hR.x (m_X12_inState hR (by rw [zset_001]; exact hm4) ⟨by omega, by omega⟩ (fun t t0 t1 => by rw [zset_001]; have := hM.1.V (k := t) ⟨t0, t1⟩; exact ⟨by omega, by omega⟩)) ?_
              try rw [zset_001]
              refine z_ireturn eX12_count_92 rfl ?_
              rw [if_neg (by omega), if_neg (by omega), if_neg (by omega), if_neg (by omega), if_neg (by omega), if_pos (by omega)]; exact ⟨rfl, rfl, rfl, rfl⟩
          · refine z_al0 eX12_count_62 hR.ne ?_
            refine z_ra lX12_7 eX12_count_63 rfl hR rfl ?_
            try rw [zset_001]
            refine z_iconst eX12_count_66 ?_
            refine z_il1 eX12_count_67 ?_
            refine z_iadd eX12_count_68 ?_
            refine z_iconst eX12_count_69 ?_
            refine z_isub eX12_count_70 ?_
            refine z_rl eX12_count_71 hR (by decide) rfl rfl ⟨by omega, by omega⟩ ?_
            try rw [zset_001]
            refine z_ireturn eX12_count_72 rfl ?_
            rw [if_neg (by omega), if_neg (by omega), if_neg (by omega), if_neg (by omega), if_pos (by omega)]; exact ⟨rfl, rfl, rfl, rfl⟩
        · refine z_al0 eX12_count_45 hR.ne ?_
          refine z_ra lX12_7 eX12_count_46 rfl hR rfl ?_
          try rw [zset_001]
          refine z_iconst eX12_count_49 ?_
          refine z_rl eX12_count_50 hR (by decide) rfl rfl ⟨by omega, by omega⟩ ?_
          try rw [zset_001]
          refine z_ireturn eX12_count_51 rfl ?_
          rw [if_neg (by omega), if_neg (by omega), if_neg (by omega), if_pos (by omega)]; exact ⟨rfl, rfl, rfl, rfl⟩
      · refine z_al0 eX12_count_33 hR.ne ?_
        refine z_ra lX12_7 eX12_count_34 rfl hR rfl ?_
        try rw [zset_001]
        refine z_iconst eX12_count_37 ?_
        refine z_rl eX12_count_38 hR (by decide) rfl rfl ⟨by omega, by omega⟩ ?_
        try rw [zset_001]
        refine z_ireturn eX12_count_39 rfl ?_
        rw [if_neg (by omega), if_neg (by omega), if_pos (by omega)]; exact ⟨rfl, rfl, rfl, rfl⟩
    · refine z_al0 eX12_count_21 hR.ne ?_
      refine z_ra lX12_7 eX12_count_22 rfl hR rfl ?_
      try rw [zset_001]
      refine z_iconst eX12_count_25 ?_
      refine z_rl eX12_count_26 hR (by decide) rfl rfl ⟨by omega, by omega⟩ ?_
      try rw [zset_001]
      refine z_ireturn eX12_count_27 rfl ?_
      rw [if_neg (by omega), if_pos (by omega)]; exact ⟨rfl, rfl, rfl, rfl⟩
  · refine z_al0 eX12_count_9 hR.ne ?_
    refine z_ra lX12_7 eX12_count_10 rfl hR rfl ?_
    try rw [zset_001]
    refine z_iconst eX12_count_13 ?_
    refine z_rl eX12_count_14 hR (by decide) rfl rfl ⟨by omega, by omega⟩ ?_
    try rw [zset_001]
    refine z_ireturn eX12_count_15 rfl ?_
    rw [if_pos h6]; exact ⟨rfl, rfl, rfl, rfl⟩
