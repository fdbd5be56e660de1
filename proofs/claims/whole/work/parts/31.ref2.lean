/-! Folds; the reference's sets, tape and letters. -/
def zorN (f : Int → Int) : Nat → Int
  | 0 => 0
  | n + 1 => zor (zorN f n) (f n)
/-- f 0 | .. | f (n - 1) -/
def zors (f : Int → Int) (n : Int) : Int := zorN f n.toNat
theorem zors_0 (f : Int → Int) : zors f 0 = 0 := rfl
theorem zors_s (f : Int → Int) {n : Int} (h : 0 ≤ n) : zors f (n + 1) = zor (zors f n) (f n) := by
  unfold zors
  rw [show (n + 1).toNat = n.toNat + 1 by omega]
  show zor (zorN f n.toNat) (f (n.toNat : Int)) = _
  rw [show ((n.toNat : Nat) : Int) = n by omega]
def zfoldN {S : Type} (f : Int → S → S) (s : S) : Nat → S
  | 0 => s
  | n + 1 => f n (zfoldN f s n)
/-- f (n - 1) (.. (f 0 s)) -/
def zfold {S : Type} (f : Int → S → S) (s : S) (n : Int) : S := zfoldN f s n.toNat
theorem zfold_0 {S : Type} (f : Int → S → S) (s : S) : zfold f s 0 = s := rfl
theorem zfold_s {S : Type} (f : Int → S → S) (s : S) {n : Int} (h : 0 ≤ n) : zfold f s (n + 1) = f n (zfold f s n) := by
  unfold zfold
  rw [show (n + 1).toNat = n.toNat + 1 by omega]
  show f (n.toNat : Int) (zfoldN f s n.toNat) = _
  rw [show ((n.toNat : Nat) : Int) = n by omega]
theorem m_X12_outs {G : zG} {lay : zLay} {σ C0 : zMem} {nx x : Int} (hR : RefL lay x) (hm : 0 ≤ σ 1 3 ∧ σ 1 3 ≤ 7) : zMM G 2 KX12_outs [zP x] lay (rC x σ C0) nx (0, 0) (zR (some (zI (zors (fun p => zshl (σ 1 (46 + 4 * p + 3)) p) (σ 1 3)))) lay (rC x (σ) C0) nx) := by
  refine z_met' (L := [zP x, zU, zU]) gX12_outs.1 rfl rfl (Nat.le_of_ble_eq_true rfl) rfl ?_
  have hl : ∀ t : Int, 0 ≤ t → t ≤ σ 1 3 → zW G KX12_outs 2 (zR (some (zI (zors (fun p => zshl (σ 1 (46 + 4 * p + 3)) p) (σ 1 3)))) lay (rC x (σ) C0) nx) 4 [zP x, zI (zors (fun p => zshl (σ 1 (46 + 4 * p + 3)) p) t), zI t] [] lay (rC x (σ) C0) nx (0, 0) := by
    refine z_up (σ 1 3) ?_ ?_
    · refine z_il2 eX12_outs_4 ?_
      refine z_al0 eX12_outs_5 hR.ne ?_
      refine z_ra lX12_7 eX12_outs_6 rfl hR rfl ?_
      refine z_iconst eX12_outs_9 ?_
      refine z_rl eX12_outs_10 hR (by decide) rfl rfl ⟨by omega, by omega⟩ ?_
      refine z_icmp_ge (tgt := 31) eX12_outs_11 rfl ⟨⟨by omega, by omega⟩, ⟨by omega, by omega⟩⟩ (fun h11 => ?_) (fun h11 => absurd h11 (by omega))
      refine z_il1 eX12_outs_31 ?_
      refine z_ireturn eX12_outs_32 rfl ?_
      first | exact ⟨rfl, rfl, rfl, rfl⟩ | exact zRb1 (by omega) | exact zRb0 (by omega) | exact zRe (by omega)
    · intro t h0 h1 ih
      refine z_il2 eX12_outs_4 ?_
      refine z_al0 eX12_outs_5 hR.ne ?_
      refine z_ra lX12_7 eX12_outs_6 rfl hR rfl ?_
      refine z_iconst eX12_outs_9 ?_
      refine z_rl eX12_outs_10 hR (by decide) rfl rfl ⟨by omega, by omega⟩ ?_
      refine z_icmp_ge (tgt := 31) eX12_outs_11 rfl ⟨⟨by omega, by omega⟩, ⟨by omega, by omega⟩⟩ (fun h11 => (by exfalso; omega)) (fun h11 => ?_)
      refine z_il1 eX12_outs_14 ?_
      refine z_al0 eX12_outs_15 hR.ne ?_
      refine z_il2 eX12_outs_16 ?_
      refine z_iconst eX12_outs_17 ?_
      refine z_V2 eX12_outs_18 vX12_62 rfl rfl (Nat.le_of_ble_eq_true rfl) (Nat.le_of_ble_eq_true rfl) hR.x (m_X12_of hR ⟨by omega, by omega⟩ (by decide)) ?_
      refine z_il2 eX12_outs_21 ?_
      refine z_ishl eX12_outs_22 ?_
      refine z_ior eX12_outs_23 ?_
      refine z_is1 eX12_outs_24 (Nat.ne_of_beq_eq_false rfl) ?_
      refine z_ii2 eX12_outs_25 (Nat.ne_of_beq_eq_false rfl) ?_
      refine z_goto eX12_outs_28 (tgt := 4) rfl ?_
      rw [zors_s _ h0] at ih
      exact ih
  refine z_iconst eX12_outs_0 ?_
  refine z_is1 eX12_outs_1 (Nat.ne_of_beq_eq_false rfl) ?_
  refine z_iconst eX12_outs_2 ?_
  refine z_is2 eX12_outs_3 (Nat.ne_of_beq_eq_false rfl) ?_
  exact hl 0 (by omega) (by omega)
theorem m_X12_inState {G : zG} {lay : zLay} {σ C0 : zMem} {nx x : Int} {v : Int} (hR : RefL lay x) (hm : 0 ≤ σ 1 4 ∧ σ 1 4 ≤ 8) (hv : zin v) (hs : ∀ t, 0 ≤ t → t < 8 → zin (σ 1 (74 + 5 * t + 4))) : zMM G 2 KX12_inState [zP x, zI v] lay (rC x σ C0) nx (0, 0) (zR (some (zI (zors (fun t => if σ 1 (74 + 5 * t + 4) = v then zshl 1 t else 0) (σ 1 4)))) lay (rC x (σ) C0) nx) := by
  refine z_met' (L := [zP x, zI v, zU, zU]) gX12_inState.1 rfl rfl (Nat.le_of_ble_eq_true rfl) rfl ?_
  have hl : ∀ t : Int, 0 ≤ t → t ≤ σ 1 4 → zW G KX12_inState 2 (zR (some (zI (zors (fun t => if σ 1 (74 + 5 * t + 4) = v then zshl 1 t else 0) (σ 1 4)))) lay (rC x (σ) C0) nx) 4 [zP x, zI v, zI (zors (fun t => if σ 1 (74 + 5 * t + 4) = v then zshl 1 t else 0) t), zI t] [] lay (rC x (σ) C0) nx (0, 0) := by
    refine z_up (σ 1 4) ?_ ?_
    · refine z_il3 eX12_inState_4 ?_
      refine z_al0 eX12_inState_5 hR.ne ?_
      refine z_ra lX12_7 eX12_inState_6 rfl hR rfl ?_
      refine z_iconst eX12_inState_9 ?_
      refine z_rl eX12_inState_10 hR (by decide) rfl rfl ⟨by omega, by omega⟩ ?_
      refine z_icmp_ge (tgt := 40) eX12_inState_11 rfl ⟨⟨by omega, by omega⟩, ⟨by omega, by omega⟩⟩ (fun h11 => ?_) (fun h11 => absurd h11 (by omega))
      refine z_il2 eX12_inState_40 ?_
      refine z_ireturn eX12_inState_41 rfl ?_
      first | exact ⟨rfl, rfl, rfl, rfl⟩ | exact zRb1 (by omega) | exact zRb0 (by omega) | exact zRe (by omega)
    · intro t h0 h1 ih
      have hst := hs t h0 (by omega)
      refine z_il3 eX12_inState_4 ?_
      refine z_al0 eX12_inState_5 hR.ne ?_
      refine z_ra lX12_7 eX12_inState_6 rfl hR rfl ?_
      refine z_iconst eX12_inState_9 ?_
      refine z_rl eX12_inState_10 hR (by decide) rfl rfl ⟨by omega, by omega⟩ ?_
      refine z_icmp_ge (tgt := 40) eX12_inState_11 rfl ⟨⟨by omega, by omega⟩, ⟨by omega, by omega⟩⟩ (fun h11 => (by exfalso; omega)) (fun h11 => ?_)
      refine z_il2 eX12_inState_14 ?_
      refine z_al0 eX12_inState_15 hR.ne ?_
      refine z_il3 eX12_inState_16 ?_
      refine z_iconst eX12_inState_17 ?_
      refine z_V2 eX12_inState_18 vX12_55 rfl rfl (Nat.le_of_ble_eq_true rfl) (Nat.le_of_ble_eq_true rfl) hR.x (m_X12_ofMotion hR ⟨by omega, by omega⟩ (by decide)) ?_
      refine z_il1 eX12_inState_21 ?_
      refine z_icmp_ne (tgt := 31) eX12_inState_22 rfl ⟨hst, hv⟩ (fun h22 => ?_) (fun h22 => ?_)
      · refine z_iconst eX12_inState_31 ?_
        refine z_ior eX12_inState_32 ?_
        refine z_is2 eX12_inState_33 (Nat.ne_of_beq_eq_false rfl) ?_
        refine z_ii3 eX12_inState_34 (Nat.ne_of_beq_eq_false rfl) ?_
        refine z_goto eX12_inState_37 (tgt := 4) rfl ?_
        rw [zors_s _ h0] at ih
        first | (rw [if_pos (by assumption)] at ih; exact ih) | (rw [if_neg (by assumption)] at ih; exact ih)
      · refine z_iconst eX12_inState_25 ?_
        refine z_il3 eX12_inState_26 ?_
        refine z_ishl eX12_inState_27 ?_
        refine z_goto eX12_inState_28 (tgt := 32) rfl ?_
        refine z_ior eX12_inState_32 ?_
        refine z_is2 eX12_inState_33 (Nat.ne_of_beq_eq_false rfl) ?_
        refine z_ii3 eX12_inState_34 (Nat.ne_of_beq_eq_false rfl) ?_
        refine z_goto eX12_inState_37 (tgt := 4) rfl ?_
        rw [zors_s _ h0] at ih
        first | (rw [if_pos (by assumption)] at ih; exact ih) | (rw [if_neg (by assumption)] at ih; exact ih)
  refine z_iconst eX12_inState_0 ?_
  refine z_is2 eX12_inState_1 (Nat.ne_of_beq_eq_false rfl) ?_
  refine z_iconst eX12_inState_2 ?_
  refine z_is3 eX12_inState_3 (Nat.ne_of_beq_eq_false rfl) ?_
  exact hl 0 (by omega) (by omega)
/-- the last hour of the paper in which t stands -/
def qstands (M : Int → Int) (t n : Int) : Int := zfold (fun h r => if M (114 + h) = t then h else r) (-1) n
theorem qstands_s (M : Int → Int) (t : Int) {n : Int} (h : 0 ≤ n) : qstands M t (n + 1) = if M (114 + n) = t then n else qstands M t n := zfold_s _ _ h
theorem m_X12_standsIn {G : zG} {lay : zLay} {σ C0 : zMem} {nx x : Int} {v : Int} (hR : RefL lay x) (hv : zin v) (hs : ∀ t, 0 ≤ t → t < 12 → zin (σ 1 (114 + t))) : zMM G 1 KX12_standsIn [zP x, zI v] lay (rC x σ C0) nx (0, 0) (zR (some (zI (qstands (σ 1) v 12))) lay (rC x (σ) C0) nx) := by
  refine z_met' (L := [zP x, zI v, zU, zU]) gX12_standsIn.1 rfl rfl (Nat.le_of_ble_eq_true rfl) rfl ?_
  have hl : ∀ t : Int, 0 ≤ t → t ≤ 12 → zW G KX12_standsIn 1 (zR (some (zI (qstands (σ 1) v 12))) lay (rC x (σ) C0) nx) 4 [zP x, zI v, zI (qstands (σ 1) v t), zI t] [] lay (rC x (σ) C0) nx (0, 0) := by
    refine z_up (12) ?_ ?_
    · refine z_il3 eX12_standsIn_4 ?_
      refine z_bipush eX12_standsIn_5 (by decide) ?_
      refine z_icmp_ge (tgt := 31) eX12_standsIn_7 rfl ⟨⟨by omega, by omega⟩, ⟨by omega, by omega⟩⟩ (fun h7 => ?_) (fun h7 => absurd h7 (by omega))
      refine z_il2 eX12_standsIn_31 ?_
      refine z_ireturn eX12_standsIn_32 rfl ?_
      first | exact ⟨rfl, rfl, rfl, rfl⟩ | exact zRb1 (by omega) | exact zRb0 (by omega) | exact zRe (by omega)
    · intro t h0 h1 ih
      have hst := hs t h0 h1
      refine z_il3 eX12_standsIn_4 ?_
      refine z_bipush eX12_standsIn_5 (by decide) ?_
      refine z_icmp_ge (tgt := 31) eX12_standsIn_7 rfl ⟨⟨by omega, by omega⟩, ⟨by omega, by omega⟩⟩ (fun h7 => (by exfalso; omega)) (fun h7 => ?_)
      refine z_al0 eX12_standsIn_10 hR.ne ?_
      refine z_ra lX12_7 eX12_standsIn_11 rfl hR rfl ?_
      refine z_bipush eX12_standsIn_14 (by decide) ?_
      refine z_il3 eX12_standsIn_16 ?_
      refine z_iadd eX12_standsIn_17 ?_
      refine z_rl eX12_standsIn_18 hR (by decide) rfl rfl ⟨by omega, by omega⟩ ?_
      refine z_il1 eX12_standsIn_19 ?_
      refine z_icmp_ne (tgt := 25) eX12_standsIn_20 rfl ⟨hst, hv⟩ (fun h20 => ?_) (fun h20 => ?_)
      · refine z_ii3 eX12_standsIn_25 (Nat.ne_of_beq_eq_false rfl) ?_
        refine z_goto eX12_standsIn_28 (tgt := 4) rfl ?_
        rw [qstands_s _ _ h0] at ih
        first | (rw [if_pos (by assumption)] at ih; exact ih) | (rw [if_neg (by assumption)] at ih; exact ih)
      · refine z_il3 eX12_standsIn_23 ?_
        refine z_is2 eX12_standsIn_24 (Nat.ne_of_beq_eq_false rfl) ?_
        refine z_ii3 eX12_standsIn_25 (Nat.ne_of_beq_eq_false rfl) ?_
        refine z_goto eX12_standsIn_28 (tgt := 4) rfl ?_
        rw [qstands_s _ _ h0] at ih
        first | (rw [if_pos (by assumption)] at ih; exact ih) | (rw [if_neg (by assumption)] at ih; exact ih)
  refine z_iconst eX12_standsIn_0 ?_
  refine z_is2 eX12_standsIn_1 (Nat.ne_of_beq_eq_false rfl) ?_
  refine z_iconst eX12_standsIn_2 ?_
  refine z_is3 eX12_standsIn_3 (Nat.ne_of_beq_eq_false rfl) ?_
  exact hl 0 (by omega) (by omega)
/-- the k-th byte of five numbers -/
def qbyte (a b c d e k : Int) : Int := zand (zushr (if k < 4 then a else if k < 8 then b else if k < 12 then c else if k < 16 then d else e) (24 - 8 * (k % 4))) 255
/-- t bytes put behind the tape -/
def qfeed (σ : zMem) (a b c d e t : Int) : zMem := fun i j => if i = 0 ∧ j = 0 then 0 else if i = 0 ∧ j = 8 then σ 0 8 + t else if i = 5 ∧ σ 0 8 ≤ j ∧ j < σ 0 8 + t then qbyte a b c d e (j - σ 0 8) else σ i j
theorem qfeed_s (σ : zMem) (a b c d e : Int) {t : Int} (h : 0 ≤ t) : zset (zset (qfeed σ a b c d e t) 5 (σ 0 8 + t) (qbyte a b c d e t)) 0 8 (σ 0 8 + t + 1) = qfeed σ a b c d e (t + 1) := by
  funext i j
  unfold zset qfeed
  by_cases h1 : i = 0
  · subst h1
    by_cases h2 : j = 0
    · subst h2; simp
    · by_cases h3 : j = 8
      · subst h3; simp; omega
      · simp [h2, h3]
  · by_cases h4 : i = 5
    · subst h4
      by_cases h5 : j = σ 0 8 + t
      · subst h5
        simp
        rw [if_pos (by omega), show σ 0 8 + t - σ 0 8 = t by omega]
      · simp [h5]
        by_cases h6 : σ 0 8 ≤ j ∧ j < σ 0 8 + t
        · rw [if_pos h6, if_pos (by omega)]
        · rw [if_neg h6, if_neg (by omega)]
    · simp [h1, h4]
theorem zW_mem {G : zG} {k : zK} {D pc : Nat} {Q : zQ} {L st : List zAV} {lay : zLay} {x nx : Int} {σ σ' C0 : zMem} {b : Nat × Nat} (h : σ' = σ) (w : zW G k D Q pc L st lay (rC x σ C0) nx b) : zW G k D Q pc L st lay (rC x σ' C0) nx b := by rw [h]; exact w
theorem m_X12_feed {G : zG} {lay : zLay} {σ C0 : zMem} {nx x : Int} {a c d e f : Int} (hR : RefL lay x) (ht : 0 ≤ σ 0 8 ∧ σ 0 8 ≤ 400) : zMM G 1 KX12_feed [zP x, zI a, zI c, zI d, zI e, zI f] lay (rC x σ C0) nx (0, 0) (zR (some (zI (if 400 < σ 0 8 + 20 then -1 else σ 0 8 + 20))) lay (rC x ((if 400 < σ 0 8 + 20 then zset σ 0 0 0 else qfeed σ a c d e f 20)) C0) nx) := by
  refine z_met' (L := [zP x, zI a, zI c, zI d, zI e, zI f, zU, zU]) gX12_feed.1 rfl rfl (Nat.le_of_ble_eq_true rfl) rfl ?_
  have e0 : zset σ 0 0 0 0 8 = σ 0 8 := by simp [zset_at]
  by_cases hc : 400 < σ 0 8 + 20
  · rw [if_pos hc, if_pos hc]
    refine z_al0 eX12_feed_0 hR.ne ?_
    refine z_iconst eX12_feed_1 ?_
    refine z_rp (j := 0) lX12_48 eX12_feed_2 rfl hR rfl rfl ?_
    refine z_al0 eX12_feed_5 hR.ne ?_
    refine z_rg (j := 8) lX12_65 eX12_feed_6 rfl hR rfl rfl ?_
    refine z_bipush eX12_feed_9 (by decide) ?_
    refine z_iadd eX12_feed_11 ?_
    refine z_sipush eX12_feed_12 (by decide) ?_
    refine z_icmp_le (tgt := 20) eX12_feed_15 rfl ⟨⟨by omega, by omega⟩, ⟨by omega, by omega⟩⟩ (fun h15 => (by exfalso; omega)) (fun h15 => ?_)
    refine z_iconst eX12_feed_18 ?_
    refine z_ireturn eX12_feed_19 rfl ?_
    first | exact ⟨rfl, rfl, rfl, rfl⟩ | exact zRb1 (by omega) | exact zRb0 (by omega) | exact zRe (by omega)
  · rw [if_neg hc, if_neg hc]
    have hl : ∀ t : Int, 0 ≤ t → t ≤ 20 → ∀ u : zAV, u.1 ≠ 1 → zW G KX12_feed 1 (zR (some (zI (σ 0 8 + 20))) lay (rC x (qfeed σ a c d e f 20) C0) nx) 23 [zP x, zI a, zI c, zI d, zI e, zI f, zI t, u] [] lay (rC x (qfeed σ a c d e f t) C0) nx (0, 0) := by
      refine z_up 20 ?_ ?_
      · intro u hu
        refine z_il6 eX12_feed_23 ?_
        refine z_bipush eX12_feed_25 (by decide) ?_
        refine z_icmp_ge (tgt := 120) eX12_feed_27 rfl ⟨⟨by omega, by omega⟩, ⟨by omega, by omega⟩⟩ (fun h27 => ?_) (fun h27 => (by exfalso; omega))
        refine z_al0 eX12_feed_120 hR.ne ?_
        refine z_rg (j := 8) lX12_65 eX12_feed_121 rfl hR rfl rfl ?_
        refine z_ireturn eX12_feed_124 rfl ?_
        exact zRe (by simp [qfeed])
      · intro t h0 h1 ih u hu
        have e8 : qfeed σ a c d e f t 0 8 = σ 0 8 + t := by simp [qfeed]
        refine z_il6 eX12_feed_23 ?_
        refine z_bipush eX12_feed_25 (by decide) ?_
        refine z_icmp_ge (tgt := 120) eX12_feed_27 rfl ⟨⟨by omega, by omega⟩, ⟨by omega, by omega⟩⟩ (fun h27 => (by exfalso; omega)) (fun h27 => ?_)
        refine z_il6 eX12_feed_30 ?_
        refine z_iconst eX12_feed_32 ?_
        refine z_icmp_ge (tgt := 40) eX12_feed_33 rfl ⟨⟨by omega, by omega⟩, ⟨by omega, by omega⟩⟩ (fun h33 => ?_) (fun h33 => ?_)
        · refine z_il6 eX12_feed_40 ?_
          refine z_bipush eX12_feed_42 (by decide) ?_
          refine z_icmp_ge (tgt := 51) eX12_feed_44 rfl ⟨⟨by omega, by omega⟩, ⟨by omega, by omega⟩⟩ (fun h44 => ?_) (fun h44 => ?_)
          · refine z_il6 eX12_feed_51 ?_
            refine z_bipush eX12_feed_53 (by decide) ?_
            refine z_icmp_ge (tgt := 62) eX12_feed_55 rfl ⟨⟨by omega, by omega⟩, ⟨by omega, by omega⟩⟩ (fun h55 => ?_) (fun h55 => ?_)
            · refine z_il6 eX12_feed_62 ?_
              refine z_bipush eX12_feed_64 (by decide) ?_
              refine z_icmp_ge (tgt := 74) eX12_feed_66 rfl ⟨⟨by omega, by omega⟩, ⟨by omega, by omega⟩⟩ (fun h66 => ?_) (fun h66 => ?_)
              · refine z_il5 eX12_feed_74 ?_
                refine z_is7 eX12_feed_76 (Nat.ne_of_beq_eq_false rfl) ?_
                refine z_al0 eX12_feed_78 hR.ne ?_
                refine z_ra lX12_22 eX12_feed_79 rfl hR rfl ?_
                refine z_al0 eX12_feed_82 hR.ne ?_
                refine z_rg (j := 8) lX12_65 eX12_feed_83 rfl hR rfl rfl ?_
                refine z_il7 eX12_feed_86 ?_
                refine z_bipush eX12_feed_88 (by decide) ?_
                refine z_bipush eX12_feed_90 (by decide) ?_
                refine z_il6 eX12_feed_92 ?_
                refine z_iconst eX12_feed_94 ?_
                refine z_irem eX12_feed_95 ⟨by omega, by omega, by omega, by omega⟩ ?_
                refine z_imul eX12_feed_96 ?_
                refine z_isub eX12_feed_97 ?_
                refine z_iushr eX12_feed_98 ?_
                refine z_sipush eX12_feed_99 (by decide) ?_
                refine z_iand eX12_feed_102 ?_
                refine z_rs eX12_feed_103 hR (by decide) rfl rfl ⟨by omega, by omega⟩ ?_
                refine z_al0 eX12_feed_104 hR.ne ?_
                refine z_dup eX12_feed_105 (Nat.ne_of_beq_eq_false rfl) ?_
                refine z_rg (j := 8) lX12_65 eX12_feed_106 rfl hR rfl rfl ?_
                refine z_iconst eX12_feed_109 ?_
                refine z_iadd eX12_feed_110 ?_
                refine z_rp (j := 8) lX12_65 eX12_feed_111 rfl hR rfl rfl ?_
                refine z_ii6 eX12_feed_114 (Nat.ne_of_beq_eq_false rfl) ?_
                refine z_goto eX12_feed_117 (tgt := 23) rfl ?_
                refine zW_mem ?_ (ih _ (Nat.ne_of_beq_eq_false rfl))
                rw [← qfeed_s _ _ _ _ _ _ h0, zset_at _ 5 _ _ 0 8, if_neg (by omega), e8]
                congr 2
                unfold qbyte
                (repeat' split) <;> first | rfl | (exfalso; omega)
              · refine z_il4 eX12_feed_69 ?_
                refine z_goto eX12_feed_71 (tgt := 76) rfl ?_
                refine z_is7 eX12_feed_76 (Nat.ne_of_beq_eq_false rfl) ?_
                refine z_al0 eX12_feed_78 hR.ne ?_
                refine z_ra lX12_22 eX12_feed_79 rfl hR rfl ?_
                refine z_al0 eX12_feed_82 hR.ne ?_
                refine z_rg (j := 8) lX12_65 eX12_feed_83 rfl hR rfl rfl ?_
                refine z_il7 eX12_feed_86 ?_
                refine z_bipush eX12_feed_88 (by decide) ?_
                refine z_bipush eX12_feed_90 (by decide) ?_
                refine z_il6 eX12_feed_92 ?_
                refine z_iconst eX12_feed_94 ?_
                refine z_irem eX12_feed_95 ⟨by omega, by omega, by omega, by omega⟩ ?_
                refine z_imul eX12_feed_96 ?_
                refine z_isub eX12_feed_97 ?_
                refine z_iushr eX12_feed_98 ?_
                refine z_sipush eX12_feed_99 (by decide) ?_
                refine z_iand eX12_feed_102 ?_
                refine z_rs eX12_feed_103 hR (by decide) rfl rfl ⟨by omega, by omega⟩ ?_
                refine z_al0 eX12_feed_104 hR.ne ?_
                refine z_dup eX12_feed_105 (Nat.ne_of_beq_eq_false rfl) ?_
                refine z_rg (j := 8) lX12_65 eX12_feed_106 rfl hR rfl rfl ?_
                refine z_iconst eX12_feed_109 ?_
                refine z_iadd eX12_feed_110 ?_
                refine z_rp (j := 8) lX12_65 eX12_feed_111 rfl hR rfl rfl ?_
                refine z_ii6 eX12_feed_114 (Nat.ne_of_beq_eq_false rfl) ?_
                refine z_goto eX12_feed_117 (tgt := 23) rfl ?_
                refine zW_mem ?_ (ih _ (Nat.ne_of_beq_eq_false rfl))
                rw [← qfeed_s _ _ _ _ _ _ h0, zset_at _ 5 _ _ 0 8, if_neg (by omega), e8]
                congr 2
                unfold qbyte
                (repeat' split) <;> first | rfl | (exfalso; omega)
            · refine z_il3 eX12_feed_58 ?_
              refine z_goto eX12_feed_59 (tgt := 76) rfl ?_
              refine z_is7 eX12_feed_76 (Nat.ne_of_beq_eq_false rfl) ?_
              refine z_al0 eX12_feed_78 hR.ne ?_
              refine z_ra lX12_22 eX12_feed_79 rfl hR rfl ?_
              refine z_al0 eX12_feed_82 hR.ne ?_
              refine z_rg (j := 8) lX12_65 eX12_feed_83 rfl hR rfl rfl ?_
              refine z_il7 eX12_feed_86 ?_
              refine z_bipush eX12_feed_88 (by decide) ?_
              refine z_bipush eX12_feed_90 (by decide) ?_
              refine z_il6 eX12_feed_92 ?_
              refine z_iconst eX12_feed_94 ?_
              refine z_irem eX12_feed_95 ⟨by omega, by omega, by omega, by omega⟩ ?_
              refine z_imul eX12_feed_96 ?_
              refine z_isub eX12_feed_97 ?_
              refine z_iushr eX12_feed_98 ?_
              refine z_sipush eX12_feed_99 (by decide) ?_
              refine z_iand eX12_feed_102 ?_
              refine z_rs eX12_feed_103 hR (by decide) rfl rfl ⟨by omega, by omega⟩ ?_
              refine z_al0 eX12_feed_104 hR.ne ?_
              refine z_dup eX12_feed_105 (Nat.ne_of_beq_eq_false rfl) ?_
              refine z_rg (j := 8) lX12_65 eX12_feed_106 rfl hR rfl rfl ?_
              refine z_iconst eX12_feed_109 ?_
              refine z_iadd eX12_feed_110 ?_
              refine z_rp (j := 8) lX12_65 eX12_feed_111 rfl hR rfl rfl ?_
              refine z_ii6 eX12_feed_114 (Nat.ne_of_beq_eq_false rfl) ?_
              refine z_goto eX12_feed_117 (tgt := 23) rfl ?_
              refine zW_mem ?_ (ih _ (Nat.ne_of_beq_eq_false rfl))
              rw [← qfeed_s _ _ _ _ _ _ h0, zset_at _ 5 _ _ 0 8, if_neg (by omega), e8]
              congr 2
              unfold qbyte
              (repeat' split) <;> first | rfl | (exfalso; omega)
          · refine z_il2 eX12_feed_47 ?_
            refine z_goto eX12_feed_48 (tgt := 76) rfl ?_
            refine z_is7 eX12_feed_76 (Nat.ne_of_beq_eq_false rfl) ?_
            refine z_al0 eX12_feed_78 hR.ne ?_
            refine z_ra lX12_22 eX12_feed_79 rfl hR rfl ?_
            refine z_al0 eX12_feed_82 hR.ne ?_
            refine z_rg (j := 8) lX12_65 eX12_feed_83 rfl hR rfl rfl ?_
            refine z_il7 eX12_feed_86 ?_
            refine z_bipush eX12_feed_88 (by decide) ?_
            refine z_bipush eX12_feed_90 (by decide) ?_
            refine z_il6 eX12_feed_92 ?_
            refine z_iconst eX12_feed_94 ?_
            refine z_irem eX12_feed_95 ⟨by omega, by omega, by omega, by omega⟩ ?_
            refine z_imul eX12_feed_96 ?_
            refine z_isub eX12_feed_97 ?_
            refine z_iushr eX12_feed_98 ?_
            refine z_sipush eX12_feed_99 (by decide) ?_
            refine z_iand eX12_feed_102 ?_
            refine z_rs eX12_feed_103 hR (by decide) rfl rfl ⟨by omega, by omega⟩ ?_
            refine z_al0 eX12_feed_104 hR.ne ?_
            refine z_dup eX12_feed_105 (Nat.ne_of_beq_eq_false rfl) ?_
            refine z_rg (j := 8) lX12_65 eX12_feed_106 rfl hR rfl rfl ?_
            refine z_iconst eX12_feed_109 ?_
            refine z_iadd eX12_feed_110 ?_
            refine z_rp (j := 8) lX12_65 eX12_feed_111 rfl hR rfl rfl ?_
            refine z_ii6 eX12_feed_114 (Nat.ne_of_beq_eq_false rfl) ?_
            refine z_goto eX12_feed_117 (tgt := 23) rfl ?_
            refine zW_mem ?_ (ih _ (Nat.ne_of_beq_eq_false rfl))
            rw [← qfeed_s _ _ _ _ _ _ h0, zset_at _ 5 _ _ 0 8, if_neg (by omega), e8]
            congr 2
            unfold qbyte
            (repeat' split) <;> first | rfl | (exfalso; omega)
        · refine z_il1 eX12_feed_36 ?_
          refine z_goto eX12_feed_37 (tgt := 76) rfl ?_
          refine z_is7 eX12_feed_76 (Nat.ne_of_beq_eq_false rfl) ?_
          refine z_al0 eX12_feed_78 hR.ne ?_
          refine z_ra lX12_22 eX12_feed_79 rfl hR rfl ?_
          refine z_al0 eX12_feed_82 hR.ne ?_
          refine z_rg (j := 8) lX12_65 eX12_feed_83 rfl hR rfl rfl ?_
          refine z_il7 eX12_feed_86 ?_
          refine z_bipush eX12_feed_88 (by decide) ?_
          refine z_bipush eX12_feed_90 (by decide) ?_
          refine z_il6 eX12_feed_92 ?_
          refine z_iconst eX12_feed_94 ?_
          refine z_irem eX12_feed_95 ⟨by omega, by omega, by omega, by omega⟩ ?_
          refine z_imul eX12_feed_96 ?_
          refine z_isub eX12_feed_97 ?_
          refine z_iushr eX12_feed_98 ?_
          refine z_sipush eX12_feed_99 (by decide) ?_
          refine z_iand eX12_feed_102 ?_
          refine z_rs eX12_feed_103 hR (by decide) rfl rfl ⟨by omega, by omega⟩ ?_
          refine z_al0 eX12_feed_104 hR.ne ?_
          refine z_dup eX12_feed_105 (Nat.ne_of_beq_eq_false rfl) ?_
          refine z_rg (j := 8) lX12_65 eX12_feed_106 rfl hR rfl rfl ?_
          refine z_iconst eX12_feed_109 ?_
          refine z_iadd eX12_feed_110 ?_
          refine z_rp (j := 8) lX12_65 eX12_feed_111 rfl hR rfl rfl ?_
          refine z_ii6 eX12_feed_114 (Nat.ne_of_beq_eq_false rfl) ?_
          refine z_goto eX12_feed_117 (tgt := 23) rfl ?_
          refine zW_mem ?_ (ih _ (Nat.ne_of_beq_eq_false rfl))
          rw [← qfeed_s _ _ _ _ _ _ h0, zset_at _ 5 _ _ 0 8, if_neg (by omega), e8]
          congr 2
          unfold qbyte
          (repeat' split) <;> first | rfl | (exfalso; omega)
    refine z_al0 eX12_feed_0 hR.ne ?_
    refine z_iconst eX12_feed_1 ?_
    refine z_rp (j := 0) lX12_48 eX12_feed_2 rfl hR rfl rfl ?_
    refine z_al0 eX12_feed_5 hR.ne ?_
    refine z_rg (j := 8) lX12_65 eX12_feed_6 rfl hR rfl rfl ?_
    refine z_bipush eX12_feed_9 (by decide) ?_
    refine z_iadd eX12_feed_11 ?_
    refine z_sipush eX12_feed_12 (by decide) ?_
    refine z_icmp_le (tgt := 20) eX12_feed_15 rfl ⟨⟨by omega, by omega⟩, ⟨by omega, by omega⟩⟩ (fun h15 => ?_) (fun h15 => (by exfalso; omega))
    refine z_iconst eX12_feed_20 ?_
    refine z_is6 eX12_feed_21 (Nat.ne_of_beq_eq_false rfl) ?_
    refine zW_mem ?_ (hl 0 (by omega) (by omega) zU (Nat.ne_of_beq_eq_false rfl))
    funext i j
    unfold zset qfeed
    (repeat' split) <;> first | rfl | (exfalso; omega) | (simp_all; done) | omega
theorem m_X12_end {G : zG} {lay : zLay} {σ C0 : zMem} {nx x : Int} {n : Int} (hR : RefL lay x) (ht : 0 ≤ σ 0 8 ∧ σ 0 8 ≤ 400) (hn : zin n) : zMM G 2 KX12_end [zP x, zI n] lay (rC x σ C0) nx (0, 0) (zR (some (zI (zbi (0 ≤ n ∧ n ≤ σ 0 8)))) lay (rC x ((if 0 ≤ n ∧ n ≤ σ 0 8 then zset (zset σ 0 0 0) 0 8 n else zset σ 0 0 0)) C0) nx) := by
  refine z_met' (L := [zP x, zI n]) gX12_end.1 rfl rfl (Nat.le_of_ble_eq_true rfl) rfl ?_
  have e0 : zset σ 0 0 0 0 8 = σ 0 8 := by simp [zset_at]
  refine z_al0 eX12_end_0 hR.ne ?_
  refine z_iconst eX12_end_1 ?_
  refine z_rp (j := 0) lX12_48 eX12_end_2 rfl hR rfl rfl ?_
  refine z_il1 eX12_end_5 ?_
  refine z_iconst eX12_end_6 ?_
  refine z_al0 eX12_end_7 hR.ne ?_
  refine z_rg (j := 8) lX12_65 eX12_end_8 rfl hR rfl rfl ?_
  refine z_S3 eX12_end_11 vX12_51 rfl rfl (Nat.le_of_ble_eq_true rfl) (Nat.le_of_ble_eq_true rfl) (m_X12_isIn (by refine ⟨?_, ?_, ?_⟩ <;> omega)) ?_
  refine z_ifb_ne (tgt := 19) eX12_end_14 rfl (fun h14 => ?_) (fun h14 => ?_)
  · refine z_al0 eX12_end_19 hR.ne ?_
    refine z_il1 eX12_end_20 ?_
    refine z_rp (j := 8) lX12_65 eX12_end_21 rfl hR rfl rfl ?_
    refine z_iconst eX12_end_24 ?_
    refine z_zreturn eX12_end_25 rfl (by first | exact Or.inl rfl | exact Or.inr rfl | exact zbi_01 _ | assumption | omega) ?_
    rw [if_pos (by omega)]
    exact zRb1 (by omega)
  · refine z_iconst eX12_end_17 ?_
    refine z_zreturn eX12_end_18 rfl (by first | exact Or.inl rfl | exact Or.inr rfl | exact zbi_01 _ | assumption | omega) ?_
    rw [if_neg (by omega)]
    exact zRb0 (by omega)
/-- the letters of what is read -/
def rT (σ : zMem) : Int → Int := if σ 0 9 = -1 then σ 5 else fun k => σ 1 (σ 0 9 + k)
def TxI (σ : zMem) : Prop := (σ 0 9 = -1 ∨ σ 0 9 = 426) ∧ 0 ≤ σ 0 10 ∧ σ 0 10 ≤ 400 ∧ ∀ k, 0 ≤ k → k < 400 → 0 ≤ rT σ k ∧ rT σ k ≤ 255
theorem TxI.of {σ σ' : zMem} (h : TxI σ) (h9 : σ' 0 9 = σ 0 9) (h10 : σ' 0 10 = σ 0 10) (h1 : σ' 1 = σ 1) (h5 : σ' 5 = σ 5) : TxI σ' ∧ rT σ' = rT σ := by
  have e : rT σ' = rT σ := by unfold rT; rw [h9, h1, h5]
  refine ⟨?_, e⟩
  unfold TxI
  rw [e, h9, h10]
  exact h
theorem m_X12_letter {G : zG} {lay : zLay} {σ C0 : zMem} {nx x : Int} {k : Int} (hR : RefL lay x) (hT : TxI σ) (hk : 0 ≤ k ∧ k < 400) : zMM G 1 KX12_letter [zP x, zI k] lay (rC x σ C0) nx (0, 0) (zR (some (zI (rT σ k))) lay (rC x (σ) C0) nx) := by
  refine z_met' (L := [zP x, zI k]) gX12_letter.1 rfl rfl (Nat.le_of_ble_eq_true rfl) rfl ?_
  obtain ⟨h1, h2, h3, h4⟩ := hT
  refine z_al0 eX12_letter_0 hR.ne ?_
  refine z_rg (j := 9) lX12_68 eX12_letter_1 rfl hR rfl rfl ?_
  refine z_iconst eX12_letter_4 ?_
  refine z_icmp_ne (tgt := 17) eX12_letter_5 rfl ⟨⟨by omega, by omega⟩, ⟨by omega, by omega⟩⟩ (fun h5 => ?_) (fun h5 => ?_)
  · refine z_al0 eX12_letter_17 hR.ne ?_
    refine z_ra lX12_7 eX12_letter_18 rfl hR rfl ?_
    refine z_al0 eX12_letter_21 hR.ne ?_
    refine z_rg (j := 9) lX12_68 eX12_letter_22 rfl hR rfl rfl ?_
    refine z_il1 eX12_letter_25 ?_
    refine z_iadd eX12_letter_26 ?_
    refine z_rl eX12_letter_27 hR (by decide) rfl rfl ⟨by omega, by omega⟩ ?_
    refine z_ireturn eX12_letter_28 rfl ?_
    unfold rT
    first | (rw [if_neg (by assumption)]; exact ⟨rfl, rfl, rfl, rfl⟩) | (rw [if_pos (by assumption)]; exact ⟨rfl, rfl, rfl, rfl⟩)
  · refine z_al0 eX12_letter_8 hR.ne ?_
    refine z_ra lX12_22 eX12_letter_9 rfl hR rfl ?_
    refine z_il1 eX12_letter_12 ?_
    refine z_rl eX12_letter_13 hR (by decide) rfl rfl ⟨by omega, by omega⟩ ?_
    refine z_goto eX12_letter_14 (tgt := 28) rfl ?_
    refine z_ireturn eX12_letter_28 rfl ?_
    unfold rT
    first | (rw [if_neg (by assumption)]; exact ⟨rfl, rfl, rfl, rfl⟩) | (rw [if_pos (by assumption)]; exact ⟨rfl, rfl, rfl, rfl⟩)
theorem m_X12_wrong {G : zG} {lay : zLay} {σ C0 : zMem} {nx x : Int} {w : Int} (hR : RefL lay x) (hf : zin (σ 0 12)) : zMM G 1 KX12_wrong [zP x, zI w] lay (rC x σ C0) nx (0, 0) (zR none lay (rC x ((if σ 0 12 = -1 then zset σ 0 12 w else σ)) C0) nx) := by
  refine z_met' (L := [zP x, zI w]) gX12_wrong.1 rfl rfl (Nat.le_of_ble_eq_true rfl) rfl ?_
  refine z_al0 eX12_wrong_0 hR.ne ?_
  refine z_rg (j := 12) lX12_25 eX12_wrong_1 rfl hR rfl rfl ?_
  refine z_iconst eX12_wrong_4 ?_
  refine z_icmp_ne (tgt := 13) eX12_wrong_5 rfl ⟨⟨by omega, by omega⟩, ⟨by omega, by omega⟩⟩ (fun h5 => ?_) (fun h5 => ?_)
  · refine z_return eX12_wrong_13 rfl ?_
    first | (rw [if_pos (by assumption)]; exact ⟨rfl, rfl, rfl, rfl⟩) | (rw [if_neg (by assumption)]; exact ⟨rfl, rfl, rfl, rfl⟩)
  · refine z_al0 eX12_wrong_8 hR.ne ?_
    refine z_il1 eX12_wrong_9 ?_
    refine z_rp (j := 12) lX12_25 eX12_wrong_10 rfl hR rfl rfl ?_
    refine z_return eX12_wrong_13 rfl ?_
    first | (rw [if_pos (by assumption)]; exact ⟨rfl, rfl, rfl, rfl⟩) | (rw [if_neg (by assumption)]; exact ⟨rfl, rfl, rfl, rfl⟩)
/-- the first place from k on, before e, whose letter is not such -/
def qscanN (P : Int → Bool) (T : Int → Int) : Nat → Int → Int
  | 0, k => k
  | n + 1, k => if P (T k) = true then qscanN P T n (k + 1) else k
def qscan (P : Int → Bool) (T : Int → Int) (e k : Int) : Int := qscanN P T (e - k).toNat k
theorem qscan_ge {P : Int → Bool} {T : Int → Int} {e k : Int} (h : e ≤ k) : qscan P T e k = k := by
  unfold qscan
  rw [show (e - k).toNat = 0 by omega]
  rfl
theorem qscan_t {P : Int → Bool} {T : Int → Int} {e k : Int} (h : k < e) (hp : P (T k) = true) : qscan P T e k = qscan P T e (k + 1) := by
  unfold qscan
  rw [show (e - k).toNat = (e - (k + 1)).toNat + 1 by omega]
  show (if P (T k) = true then _ else _) = _
  rw [if_pos hp]
theorem qscan_f {P : Int → Bool} {T : Int → Int} {e k : Int} (h : k < e) (hp : ¬ P (T k) = true) : qscan P T e k = k := by
  unfold qscan
  rw [show (e - k).toNat = (e - (k + 1)).toNat + 1 by omega]
  show (if P (T k) = true then _ else _) = _
  rw [if_neg hp]
theorem qscan_bd {P : Int → Bool} {T : Int → Int} {e k : Int} : k ≤ qscan P T e k ∧ (k ≤ e → qscan P T e k ≤ e) := by
  have h : ∀ (n : Nat) (k : Int), (e - k).toNat = n → k ≤ qscan P T e k ∧ (k ≤ e → qscan P T e k ≤ e) := by
    intro n
    induction n with
    | zero => intro k hk; rw [qscan_ge (by omega)]; omega
    | succ n ih =>
      intro k hk
      by_cases hp : P (T k) = true
      · rw [qscan_t (by omega) hp]
        have := ih (k + 1) (by omega)
        omega
      · rw [qscan_f (by omega) hp]
        omega
  exact h _ k rfl
def qbl (c : Int) : Bool := decide (c = 32)
def qlet (c : Int) : Bool := decide (97 ≤ c ∧ c ≤ 122)
def qdig (c : Int) : Bool := decide (48 ≤ c ∧ c ≤ 57)
theorem zAt_T {σ : zMem} {a : Int} (h : TxI σ) : TxI (zset σ 0 11 a) ∧ rT (zset σ 0 11 a) = rT σ := h.of (by simp [zset_at]) (by simp [zset_at]) (by funext j; simp [zset_at]) (by funext j; simp [zset_at])
theorem zset_zset (C : zMem) (o j v v' : Int) : zset (zset C o j v) o j v' = zset C o j v' := by
  funext o' j'
  simp only [zset_at]
  split <;> simp_all
theorem zset_self (C : zMem) (o j : Int) : zset C o j (C o j) = C := by
  funext o' j'
  simp only [zset_at]
  split
  · rename_i h; rw [h.1, h.2]
  · rfl
theorem m_X12_skip {G : zG} {lay : zLay} {σ C0 : zMem} {nx x : Int} (hR : RefL lay x) (hT : TxI σ) (ha : 0 ≤ σ 0 11 ∧ σ 0 11 ≤ σ 0 10) : zMM G 2 KX12_skip [zP x] lay (rC x σ C0) nx (0, 0) (zR none lay (rC x (zset σ 0 11 (qscan qbl (rT σ) (σ 0 10) (σ 0 11))) C0) nx) := by
  refine z_met' (L := [zP x]) gX12_skip.1 rfl rfl (Nat.le_of_ble_eq_true rfl) rfl ?_
  have hl : ∀ (n : Nat) (a : Int), (σ 0 10 - a).toNat = n → 0 ≤ a → a ≤ σ 0 10 → zW G KX12_skip 2 (zR none lay (rC x (zset σ 0 11 (qscan qbl (rT σ) (σ 0 10) a)) C0) nx) 0 [zP x] [] lay (rC x (zset σ 0 11 a) C0) nx (0, 0) := by
    intro n
    have h10 : σ 0 10 ≤ 400 := hT.2.2.1
    induction n with
    | zero =>
      intro a hn h0 h1
      have e1 : zset σ 0 11 a 0 11 = a := by simp [zset_at]
      have e2 : zset σ 0 11 a 0 10 = σ 0 10 := by simp [zset_at]
      rw [qscan_ge (by omega)]
      refine z_al0 eX12_skip_0 hR.ne ?_
      refine z_rg (j := 11) lX12_71 eX12_skip_1 rfl hR rfl rfl ?_
      refine z_al0 eX12_skip_4 hR.ne ?_
      refine z_rg (j := 10) lX12_74 eX12_skip_5 rfl hR rfl rfl ?_
      refine z_icmp_ge (tgt := 37) eX12_skip_8 rfl ⟨⟨by omega, by omega⟩, ⟨by omega, by omega⟩⟩ (fun h8 => ?_) (fun h8 => (by exfalso; omega))
      refine z_return eX12_skip_37 rfl ?_
      exact ⟨rfl, rfl, rfl, rfl⟩
    | succ n ih =>
      intro a hn h0 h1
      have e1 : zset σ 0 11 a 0 11 = a := by simp [zset_at]
      have e2 : zset σ 0 11 a 0 10 = σ 0 10 := by simp [zset_at]
      have hT2 := zAt_T (a := a) hT
      have hb := hT.2.2.2 a h0 (by omega)
      refine z_al0 eX12_skip_0 hR.ne ?_
      refine z_rg (j := 11) lX12_71 eX12_skip_1 rfl hR rfl rfl ?_
      refine z_al0 eX12_skip_4 hR.ne ?_
      refine z_rg (j := 10) lX12_74 eX12_skip_5 rfl hR rfl rfl ?_
      refine z_icmp_ge (tgt := 37) eX12_skip_8 rfl ⟨⟨by omega, by omega⟩, ⟨by omega, by omega⟩⟩ (fun h8 => (by exfalso; omega)) (fun h8 => ?_)
      refine z_al0 eX12_skip_11 hR.ne ?_
      refine z_al0 eX12_skip_12 hR.ne ?_
      refine z_rg (j := 11) lX12_71 eX12_skip_13 rfl hR rfl rfl ?_
      refine z_V1 eX12_skip_16 vX12_77 rfl rfl (Nat.le_of_ble_eq_true rfl) (Nat.le_of_ble_eq_true rfl) hR.x (m_X12_letter hR hT2.1 ⟨by omega, by omega⟩) ?_
      rw [hT2.2, e1]
      refine z_bipush eX12_skip_19 (by decide) ?_
      refine z_icmp_ne (tgt := 37) eX12_skip_21 rfl ⟨⟨by omega, by omega⟩, ⟨by omega, by omega⟩⟩ (fun h21 => ?_) (fun h21 => ?_)
      · refine z_return eX12_skip_37 rfl ?_
        rw [qscan_f (by omega) (by simpa [qbl] using h21)]
        exact ⟨rfl, rfl, rfl, rfl⟩
      · refine z_al0 eX12_skip_24 hR.ne ?_
        refine z_dup eX12_skip_25 (Nat.ne_of_beq_eq_false rfl) ?_
        refine z_rg (j := 11) lX12_71 eX12_skip_26 rfl hR rfl rfl ?_
        refine z_iconst eX12_skip_29 ?_
        refine z_iadd eX12_skip_30 ?_
        refine z_rp (j := 11) lX12_71 eX12_skip_31 rfl hR rfl rfl ?_
        refine z_goto eX12_skip_34 (tgt := 0) rfl ?_
        rw [e1, zset_zset, qscan_t (by omega) (by simpa [qbl] using h21)]
        exact ih (a + 1) (by omega) (by omega) (by omega)
  have h9 := hl _ (σ 0 11) rfl ha.1 ha.2
  rw [zset_self] at h9
  exact h9
