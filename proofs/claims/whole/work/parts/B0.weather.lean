/-! The weather. -/
/-- outside n cells from b on, s is σ -/
def zOut (b n : Int) (σ s : zMem) : Prop := ∀ i, ¬ (b ≤ i ∧ i < b + n) → s i = σ i
theorem zOut.refl (b n : Int) (σ : zMem) : zOut b n σ σ := fun _ _ => rfl
theorem zOut.trans {b n : Int} {σ s t : zMem} (h : zOut b n σ s) (h2 : zOut b n s t) : zOut b n σ t := fun i hi => (h2 i hi).trans (h i hi)
theorem zOut.set {b n i j v : Int} {σ s : zMem} (h : zOut b n σ s) (hi : b ≤ i ∧ i < b + n) : zOut b n σ (zset s i j v) := fun q hq => by rw [zset_o (fun e => hq (by omega))]; exact h q hq
theorem zOut.sub {b n b' n' : Int} {σ s : zMem} (h : zOut b' n' σ s) (h2 : b ≤ b' ∧ b' + n' ≤ b + n) : zOut b n σ s := fun i hi => h i (by omega)
theorem zAt.b0 {n b : Int} {l : Int → Nat × Int} {r : Int → Int → Option Int} (h : zAt n l r b) (hn : 0 < n) : 0 ≤ b := by
  have := h.1 0 (by decide) hn
  unfold inT at this
  omega
/-- the weather at b is that of the row M -/
def WeR (σ : zMem) (b : Int) (M : Int → Int) : Prop := (σ b 0 = M 5 ∧ σ b 1 = M 6 ∧ σ b 2 = M 7 ∧ σ b 3 = M 12) ∧ ∀ t, 0 ≤ t → t < 25 → σ (b + 1) t = M (13 + t)
theorem WeR.w {σ : zMem} {b : Int} {M : Int → Int} (h : WeR σ b M) {s t : Int} (hs : 0 ≤ s ∧ s < 5) (ht : 0 ≤ t ∧ t < 5) : σ (b + 1) (s * 5 + t) = M (13 + 5 * s + t) := by
  rw [h.2 _ (by omega) (by omega)]
  congr 1
  omega
theorem c_X9_sumBehind {G : zG} {lay : zLay} {σ C0 : zMem} {nx x b : Int} (hT : TopL lay x) {s : Int} {M : Int → Int} (hA : WeAt b) (hW : WeR σ b M) (hs : 0 ≤ s ∧ s < 5) : zMM G 1 KX9_sumBehind [zP (x + b), zI s] lay (tC x σ C0) nx (0, 0) (zR (some (zI (zsum (fun t => M (13 + 5 * s + t)) 5))) lay (tC x (σ) C0) nx) := by
  refine z_met' (L := [zP (x + b), zI s, zU, zU]) gX9_sumBehind.1 rfl rfl (Nat.le_of_ble_eq_true rfl) rfl ?_
  have hb0 := hA.b0 (by decide)
  have hne : x + b ≠ -1 := by have := hT.1; omega
  have hl : ∀ t : Int, 0 ≤ t → t ≤ 5 → zW G KX9_sumBehind 1 (zR (some (zI (zsum (fun t => M (13 + 5 * s + t)) 5))) lay (tC x (σ) C0) nx) 4 [zP (x + b), zI s, zI (zsum (fun t => M (13 + 5 * s + t)) t), zI t] [] lay (tC x (σ) C0) nx (0, 0) := by
    refine z_up (5) ?_ ?_
    · refine z_il3 eX9_sumBehind_4 ?_
      refine z_iconst eX9_sumBehind_5 ?_
      refine z_icmp_ge (tgt := 28) eX9_sumBehind_6 rfl ⟨⟨by omega, by omega⟩, ⟨by omega, by omega⟩⟩ (fun h6 => ?_) (fun h6 => (by exfalso; omega))
      refine z_il2 eX9_sumBehind_28 ?_
      refine z_ireturn eX9_sumBehind_29 rfl ?_
      first | exact ⟨rfl, rfl, rfl, rfl⟩ | exact zRb1 (by omega) | exact zRb0 (by omega) | exact zRe (by omega)
    · intro t h0 h1 ih
      refine z_il3 eX9_sumBehind_4 ?_
      refine z_iconst eX9_sumBehind_5 ?_
      refine z_icmp_ge (tgt := 28) eX9_sumBehind_6 rfl ⟨⟨by omega, by omega⟩, ⟨by omega, by omega⟩⟩ (fun h6 => (by exfalso; omega)) (fun h6 => ?_)
      refine z_il2 eX9_sumBehind_9 ?_
      refine z_al0 eX9_sumBehind_10 hne ?_
      first | refine z_ta0 lX9_18 eX9_sumBehind_11 rfl hT hA (by decide) rfl rfl ?_ | refine z_ta lX9_18 eX9_sumBehind_11 rfl hT hA ⟨by decide, by decide⟩ rfl rfl ?_
      refine z_il1 eX9_sumBehind_14 ?_
      refine z_iconst eX9_sumBehind_15 ?_
      refine z_imul eX9_sumBehind_16 ?_
      refine z_il3 eX9_sumBehind_17 ?_
      refine z_iadd eX9_sumBehind_18 ?_
      refine z_tl eX9_sumBehind_19 hT hA ⟨by decide, by decide⟩ rfl rfl ⟨by omega, by omega⟩ ?_
      rw [hW.w hs ⟨by omega, by omega⟩]
      refine z_iadd eX9_sumBehind_20 ?_
      refine z_is2 eX9_sumBehind_21 (Nat.ne_of_beq_eq_false rfl) ?_
      refine z_ii3 eX9_sumBehind_22 (Nat.ne_of_beq_eq_false rfl) ?_
      refine z_goto eX9_sumBehind_25 (tgt := 4) rfl ?_
      rw [zsum_s _ h0] at ih; exact ih
  refine z_iconst eX9_sumBehind_0 ?_
  refine z_is2 eX9_sumBehind_1 (Nat.ne_of_beq_eq_false rfl) ?_
  refine z_iconst eX9_sumBehind_2 ?_
  refine z_is3 eX9_sumBehind_3 (Nat.ne_of_beq_eq_false rfl) ?_
  exact hl 0 (by decide) (by decide)
theorem c_X9_hourThen {G : zG} {lay : zLay} {σ C0 : zMem} {nx x b : Int} (hT : TopL lay x) {n : Int} {M : Int → Int} (hA : WeAt b) (hW : WeR σ b M) (hh : 0 ≤ M 6 ∧ M 6 < 12) (hn : 1 ≤ n ∧ n ≤ 24) : zMM G 1 KX9_hourThen [zP (x + b), zI n] lay (tC x σ C0) nx (0, 0) (zR (some (zI ((M 6 + n - 1) % 12))) lay (tC x (σ) C0) nx) := by
  refine z_met' (L := [zP (x + b), zI n]) gX9_hourThen.1 rfl rfl (Nat.le_of_ble_eq_true rfl) rfl ?_
  have hb0 := hA.b0 (by decide)
  have hne : x + b ≠ -1 := by have := hT.1; omega
  refine z_al0 eX9_hourThen_0 hne ?_
  first | refine z_tg0 (j := 1) lX9_34 eX9_hourThen_1 rfl hT hA (by decide) rfl rfl rfl ?_ | refine z_tg (j := 1) lX9_34 eX9_hourThen_1 rfl hT hA ⟨by decide, by decide⟩ rfl rfl rfl ?_
  rw [hW.1.2.1]
  refine z_il1 eX9_hourThen_4 ?_
  refine z_iadd eX9_hourThen_5 ?_
  refine z_iconst eX9_hourThen_6 ?_
  refine z_isub eX9_hourThen_7 ?_
  refine z_bipush eX9_hourThen_8 (by decide) ?_
  refine z_irem eX9_hourThen_10 ⟨by omega, by omega, by omega, by omega⟩ ?_
  refine z_ireturn eX9_hourThen_11 rfl ?_
  first | exact ⟨rfl, rfl, rfl, rfl⟩ | exact zRb1 (by omega) | exact zRb0 (by omega) | exact zRe (by omega)
theorem c_X9_passSky {G : zG} {lay : zLay} {σ C0 : zMem} {nx x b : Int} (hT : TopL lay x) {M : Int → Int} (hA : WeAt b) (hW : WeR σ b M) (hM : zOK M) : zMM G 2 KX9_passSky [zP (x + b)] lay (tC x σ C0) nx (0, 0) (zR none lay (tC x (zset (zset σ b 3 (1103515245 * M 12 + 12345)) b 0 (qSkyN M)) C0) nx) := by
  refine z_met' (L := [zP (x + b), zU, zU, zU, zU]) gX9_passSky.1 rfl rfl (Nat.le_of_ble_eq_true rfl) rfl ?_
  have hb0 := hA.b0 (by decide)
  have hne : x + b ≠ -1 := by have := hT.1; omega
  have h5 := hM.1.s 5 rfl (by omega)
  have hw : ∀ t, 0 ≤ t → t < 5 → 0 ≤ M (13 + 5 * M 5 + t) ∧ M (13 + 5 * M 5 + t) ≤ 9 := fun t t0 t1 => hM.1.W ⟨h5.1, by omega⟩ ⟨t0, t1⟩
  have hz1 := hM.2 (M 5) h5.1 h5.2
  have hz2 := zsum_bnd (f := fun t => M (13 + 5 * M 5 + t)) (c := 9) (n := 5) (by decide) (fun t t0 t1 => hw t t0 t1)
  have hv := qDrawV_bd M (n := zsum (fun t => M (13 + 5 * M 5 + t)) 5) (by omega)
  have ha := zand15_bd (zushr (1103515245 * M 12 + 12345) 16)
  obtain ⟨τ, hτ, t0, tw, t3⟩ : ∃ τ, zset σ b 3 (1103515245 * M 12 + 12345) = τ ∧ τ b 0 = M 5 ∧ WeR τ b (qSeed M) ∧ τ b 3 = 1103515245 * M 12 + 12345 := by
    refine ⟨_, rfl, ?_, ⟨⟨?_, ?_, ?_, ?_⟩, fun t a c => ?_⟩, zset_eq⟩
    · rw [zset_f (by decide)]; exact hW.1.1
    · rw [zset_f (by decide)]; exact hW.1.1.trans (zput_ne (by decide)).symm
    · rw [zset_f (by decide)]; exact hW.1.2.1.trans (zput_ne (by decide)).symm
    · rw [zset_f (by decide)]; exact hW.1.2.2.1.trans (zput_ne (by decide)).symm
    · rw [zset_eq]; exact zput_eq.symm
    · rw [zset_o (by omega), hW.2 t a c]; exact (zput_ne (by omega)).symm
  rw [hτ]
  have hsum : zsum (fun t => qSeed M (13 + 5 * M 5 + t)) 5 = zsum (fun t => M (13 + 5 * M 5 + t)) 5 := zsum_congr (fun t a c => zput_ne (by omega))
  unfold qSkyN
  unfold qDrawV at hv ⊢
  generalize hS : zsum (fun t => M (13 + 5 * M 5 + t)) 5 = S at hz1 hz2 hv hsum ⊢
  generalize hV : zand (zushr (1103515245 * M 12 + 12345) 16) 32767 % S = v at hv ⊢
  have w53 : ∀ (n : Nat) (q y : Int), q + n = 4 → 0 ≤ q → y = zsum (fun t => M (13 + 5 * M 5 + t)) q → y ≤ v → zW G KX9_passSky 2 (zR none lay (tC x (zset τ b 0 (qPickN (fun t => M (13 + 5 * M 5 + t)) v n q (y + M (13 + 5 * M 5 + q)))) C0) nx) 53 [zP (x + b), zI S, zI (v - y), zI (M 5 * 5), zI q] [] lay (tC x τ C0) nx (0, 0) := by
    intro n
    induction n with
    | zero =>
      intro q y hq q0 hy hyv
      have hq4 : q = 4 := by omega
      have hs5 : S = y + M (13 + 5 * M 5 + q) := by
        have h := zsum_s (fun t => M (13 + 5 * M 5 + t)) (n := 4) (by decide)
        rw [show (4 : Int) + 1 = 5 by decide, hS] at h
        rw [hq4] at hy ⊢
        rw [hy]
        exact h
      have hwq := hw q q0 (by omega)
      unfold qPickN
      refine z_il4 eX9_passSky_53 ?_
      refine z_iconst eX9_passSky_55 ?_
      refine z_icmp_ge (tgt := 88) eX9_passSky_56 rfl ⟨⟨by omega, by omega⟩, ⟨by omega, by omega⟩⟩ (fun h56 => (by exfalso; omega)) (fun h56 => ?_)
      refine z_il2 eX9_passSky_59 ?_
      refine z_al0 eX9_passSky_60 hne ?_
      first | refine z_ta0 lX9_18 eX9_passSky_61 rfl hT hA (by decide) rfl rfl ?_ | refine z_ta lX9_18 eX9_passSky_61 rfl hT hA ⟨by decide, by decide⟩ rfl rfl ?_
      refine z_il3 eX9_passSky_64 ?_
      refine z_il4 eX9_passSky_65 ?_
      refine z_iadd eX9_passSky_67 ?_
      refine z_tl eX9_passSky_68 hT hA ⟨by decide, by decide⟩ rfl rfl ⟨by omega, by omega⟩ ?_
      rw [tw.w ⟨h5.1, by omega⟩ ⟨q0, by omega⟩, show qSeed M (13 + 5 * M 5 + q) = M (13 + 5 * M 5 + q) from zput_ne (by omega)]
      refine z_isub eX9_passSky_69 ?_
      refine z_is2 eX9_passSky_70 (Nat.ne_of_beq_eq_false rfl) ?_
      refine z_il2 eX9_passSky_71 ?_
      refine z_if_ge (tgt := 82) eX9_passSky_72 rfl ⟨by omega, by omega⟩ (fun h72 => (by exfalso; omega)) (fun h72 => ?_)
      refine z_al0 eX9_passSky_75 hne ?_
      refine z_il4 eX9_passSky_76 ?_
      first | refine z_tp0 (j := 0) lX9_9 eX9_passSky_78 rfl hT hA (by decide) rfl rfl rfl ?_ | refine z_tp (j := 0) lX9_9 eX9_passSky_78 rfl hT hA ⟨by decide, by decide⟩ rfl rfl rfl ?_
      refine z_return eX9_passSky_81 rfl ?_
      exact ⟨rfl, rfl, rfl, rfl⟩
    | succ n ih =>
      intro q y hq q0 hy hyv
      have hwq := hw q q0 (by omega)
      have hyb := zsum_bnd (f := fun t => M (13 + 5 * M 5 + t)) (c := 9) (n := q) q0 (fun t a c => hw t a (by omega))
      unfold qPickN
      refine z_il4 eX9_passSky_53 ?_
      refine z_iconst eX9_passSky_55 ?_
      refine z_icmp_ge (tgt := 88) eX9_passSky_56 rfl ⟨⟨by omega, by omega⟩, ⟨by omega, by omega⟩⟩ (fun h56 => (by exfalso; omega)) (fun h56 => ?_)
      refine z_il2 eX9_passSky_59 ?_
      refine z_al0 eX9_passSky_60 hne ?_
      first | refine z_ta0 lX9_18 eX9_passSky_61 rfl hT hA (by decide) rfl rfl ?_ | refine z_ta lX9_18 eX9_passSky_61 rfl hT hA ⟨by decide, by decide⟩ rfl rfl ?_
      refine z_il3 eX9_passSky_64 ?_
      refine z_il4 eX9_passSky_65 ?_
      refine z_iadd eX9_passSky_67 ?_
      refine z_tl eX9_passSky_68 hT hA ⟨by decide, by decide⟩ rfl rfl ⟨by omega, by omega⟩ ?_
      rw [tw.w ⟨h5.1, by omega⟩ ⟨q0, by omega⟩, show qSeed M (13 + 5 * M 5 + q) = M (13 + 5 * M 5 + q) from zput_ne (by omega)]
      refine z_isub eX9_passSky_69 ?_
      refine z_is2 eX9_passSky_70 (Nat.ne_of_beq_eq_false rfl) ?_
      refine z_il2 eX9_passSky_71 ?_
      refine z_if_ge (tgt := 82) eX9_passSky_72 rfl ⟨by omega, by omega⟩ (fun h72 => ?_) (fun h72 => ?_)
      · refine z_ii4 eX9_passSky_82 (Nat.ne_of_beq_eq_false rfl) ?_
        refine z_goto eX9_passSky_85 (tgt := 53) rfl ?_
        rw [if_neg (by omega), show v - y - M (13 + 5 * M 5 + q) = v - (y + M (13 + 5 * M 5 + q)) by omega]; exact ih (q + 1) (y + M (13 + 5 * M 5 + q)) (by omega) (by omega) (by rw [zsum_s _ q0, ← hy]) (by omega)
      · refine z_al0 eX9_passSky_75 hne ?_
        refine z_il4 eX9_passSky_76 ?_
        first | refine z_tp0 (j := 0) lX9_9 eX9_passSky_78 rfl hT hA (by decide) rfl rfl rfl ?_ | refine z_tp (j := 0) lX9_9 eX9_passSky_78 rfl hT hA ⟨by decide, by decide⟩ rfl rfl rfl ?_
        refine z_return eX9_passSky_81 rfl ?_
        rw [if_pos (by omega)]; exact ⟨rfl, rfl, rfl, rfl⟩
  have h53 := w53 4 0 0 (by decide) (by decide) (by rw [zsum_0]) hv.1
  rw [Int.sub_zero, Int.zero_add] at h53
  refine z_al0 eX9_passSky_0 hne ?_
  refine z_ldc eX9_passSky_1 kX9_46 ?_
  refine z_al0 eX9_passSky_3 hne ?_
  first | refine z_tg0 (j := 3) lX9_15 eX9_passSky_4 rfl hT hA (by decide) rfl rfl rfl ?_ | refine z_tg (j := 3) lX9_15 eX9_passSky_4 rfl hT hA ⟨by decide, by decide⟩ rfl rfl rfl ?_
  rw [hW.1.2.2.2]
  refine z_imul eX9_passSky_7 ?_
  refine z_sipush eX9_passSky_8 (by decide) ?_
  refine z_iadd eX9_passSky_11 ?_
  first | refine z_tp0 (j := 3) lX9_15 eX9_passSky_12 rfl hT hA (by decide) rfl rfl rfl ?_ | refine z_tp (j := 3) lX9_15 eX9_passSky_12 rfl hT hA ⟨by decide, by decide⟩ rfl rfl rfl ?_
  rw [hτ]
  refine z_al0 eX9_passSky_15 hne ?_
  refine z_al0 eX9_passSky_16 hne ?_
  first | refine z_tg0 (j := 0) lX9_9 eX9_passSky_17 rfl hT hA (by decide) rfl rfl rfl ?_ | refine z_tg (j := 0) lX9_9 eX9_passSky_17 rfl hT hA ⟨by decide, by decide⟩ rfl rfl rfl ?_
  rw [t0]
  refine z_V1 eX9_passSky_20 vX9_47 rfl rfl (Nat.le_of_ble_eq_true rfl) (Nat.le_of_ble_eq_true rfl) ((hA).L0 hT (by decide)) (c_X9_sumBehind hT hA tw ⟨h5.1, by omega⟩) ?_
  rw [hsum]
  refine z_is1 eX9_passSky_23 (Nat.ne_of_beq_eq_false rfl) ?_
  refine z_il1 eX9_passSky_24 ?_
  refine z_if_gt (tgt := 29) eX9_passSky_25 rfl ⟨by omega, by omega⟩ (fun h25 => ?_) (fun h25 => (by exfalso; omega))
  refine z_al0 eX9_passSky_29 hne ?_
  first | refine z_tg0 (j := 3) lX9_15 eX9_passSky_30 rfl hT hA (by decide) rfl rfl rfl ?_ | refine z_tg (j := 3) lX9_15 eX9_passSky_30 rfl hT hA ⟨by decide, by decide⟩ rfl rfl rfl ?_
  rw [t3]
  refine z_bipush eX9_passSky_33 (by decide) ?_
  refine z_iushr eX9_passSky_35 ?_
  refine z_sipush eX9_passSky_36 (by decide) ?_
  refine z_iand eX9_passSky_39 ?_
  refine z_il1 eX9_passSky_40 ?_
  refine z_irem eX9_passSky_41 ⟨by omega, by omega, by omega, by omega⟩ ?_
  rw [hV]
  refine z_is2 eX9_passSky_42 (Nat.ne_of_beq_eq_false rfl) ?_
  refine z_al0 eX9_passSky_43 hne ?_
  first | refine z_tg0 (j := 0) lX9_9 eX9_passSky_44 rfl hT hA (by decide) rfl rfl rfl ?_ | refine z_tg (j := 0) lX9_9 eX9_passSky_44 rfl hT hA ⟨by decide, by decide⟩ rfl rfl rfl ?_
  rw [t0]
  refine z_iconst eX9_passSky_47 ?_
  refine z_imul eX9_passSky_48 ?_
  refine z_is3 eX9_passSky_49 (Nat.ne_of_beq_eq_false rfl) ?_
  refine z_iconst eX9_passSky_50 ?_
  refine z_is4 eX9_passSky_51 (Nat.ne_of_beq_eq_false rfl) ?_
  exact h53
theorem WeR.out {σ s : zMem} {b : Int} {M : Int → Int} (h : WeR σ b M) (h0 : s b = σ b) (h1 : s (b + 1) = σ (b + 1)) : WeR s b M := by
  unfold WeR
  rw [h0, h1]
  exact h
theorem WeR.hour0 {σ : zMem} {b v : Int} {M : Int → Int} (h : WeR σ b M) (h12 : M 6 + 1 = 12) : WeR (zset (zset (zset σ b 1 v) b 1 0) b 2 (if 9999 < M 7 + 1 then 9999 else M 7 + 1)) b (qHourOn M) := by
  obtain ⟨⟨w0, w1, w2, w3⟩, w4⟩ := h
  unfold qHourOn
  rw [if_pos h12]
  refine ⟨⟨?_, ?_, ?_, ?_⟩, fun t t0 t1 => ?_⟩
  · rw [zset_f (by decide), zset_f (by decide), zset_f (by decide), zput_ne (by decide), zput_ne (by decide), zput_ne (by decide)]; exact w0
  · rw [zset_f (by decide), zset_eq, zput_ne (by decide), zput_eq]
  · rw [zset_eq, zput_eq]
  · rw [zset_f (by decide), zset_f (by decide), zset_f (by decide), zput_ne (by decide), zput_ne (by decide), zput_ne (by decide)]; exact w3
  · rw [zset_o (by omega), zset_o (by omega), zset_o (by omega), zput_ne (by omega), zput_ne (by omega), zput_ne (by omega)]; exact w4 t t0 t1
theorem WeR.hour1 {σ : zMem} {b : Int} {M : Int → Int} (h : WeR σ b M) (h12 : ¬ M 6 + 1 = 12) : WeR (zset σ b 1 (M 6 + 1)) b (qHourOn M) := by
  obtain ⟨⟨w0, w1, w2, w3⟩, w4⟩ := h
  unfold qHourOn
  rw [if_neg h12]
  refine ⟨⟨?_, ?_, ?_, ?_⟩, fun t t0 t1 => ?_⟩
  · rw [zset_f (by decide), zput_ne (by decide)]; exact w0
  · rw [zset_eq, zput_eq]
  · rw [zset_f (by decide), zput_ne (by decide)]; exact w2
  · rw [zset_f (by decide), zput_ne (by decide)]; exact w3
  · rw [zset_o (by omega), zput_ne (by omega)]; exact w4 t t0 t1
theorem c_X9_passHour {G : zG} {lay : zLay} {σ C0 : zMem} {nx x b : Int} (hT : TopL lay x) {M : Int → Int} (hA : WeAt b) (hW : WeR σ b M) (hM : zOK M) : zMM G 2 KX9_passHour [zP (x + b)] lay (tC x σ C0) nx (0, 0) (zZ' none (fun s => zOut b 4 σ s ∧ WeR s b (qHourOn M)) lay C0 nx x) := by
  refine z_met' (L := [zP (x + b)]) gX9_passHour.1 rfl rfl (Nat.le_of_ble_eq_true rfl) rfl ?_
  have hb0 := hA.b0 (by decide)
  have hx := hT.1
  have hne : x + b ≠ -1 := by omega
  have h6 := hM.1.s 6 rfl (by omega)
  have h7 := hM.1.s 7 rfl (by omega)
  have hW0 := hW
  obtain ⟨⟨w0, w1, w2, w3⟩, w4⟩ := hW
  refine z_al0 eX9_passHour_0 hne ?_
  refine z_dup eX9_passHour_1 (Nat.ne_of_beq_eq_false rfl) ?_
  first | refine z_tg0 (j := 1) lX9_34 eX9_passHour_2 rfl hT hA (by decide) rfl rfl rfl ?_ | refine z_tg (j := 1) lX9_34 eX9_passHour_2 rfl hT hA ⟨by decide, by decide⟩ rfl rfl rfl ?_
  rw [w1]
  refine z_iconst eX9_passHour_5 ?_
  refine z_iadd eX9_passHour_6 ?_
  first | refine z_tp0 (j := 1) lX9_34 eX9_passHour_7 rfl hT hA (by decide) rfl rfl rfl ?_ | refine z_tp (j := 1) lX9_34 eX9_passHour_7 rfl hT hA ⟨by decide, by decide⟩ rfl rfl rfl ?_
  refine z_al0 eX9_passHour_10 hne ?_
  first | refine z_tg0 (j := 1) lX9_34 eX9_passHour_11 rfl hT hA (by decide) rfl rfl rfl ?_ | refine z_tg (j := 1) lX9_34 eX9_passHour_11 rfl hT hA ⟨by decide, by decide⟩ rfl rfl rfl ?_
  rw [zset_eq]
  refine z_bipush eX9_passHour_14 (by decide) ?_
  refine z_icmp_lt (tgt := 40) eX9_passHour_16 rfl ⟨⟨by omega, by omega⟩, ⟨by omega, by omega⟩⟩ (fun h16 => ?_) (fun h16 => ?_)
  · refine z_return eX9_passHour_40 rfl ?_
    first | exact zZv ⟨(((zOut.refl _ _ _).set ⟨by omega, by omega⟩).set ⟨by omega, by omega⟩).set ⟨by omega, by omega⟩, hW0.hour0 (by omega)⟩ | exact zZv ⟨(zOut.refl _ _ _).set ⟨by omega, by omega⟩, hW0.hour1 (by omega)⟩
  · refine z_al0 eX9_passHour_19 hne ?_
    refine z_iconst eX9_passHour_20 ?_
    first | refine z_tp0 (j := 1) lX9_34 eX9_passHour_21 rfl hT hA (by decide) rfl rfl rfl ?_ | refine z_tp (j := 1) lX9_34 eX9_passHour_21 rfl hT hA ⟨by decide, by decide⟩ rfl rfl rfl ?_
    refine z_al0 eX9_passHour_24 hne ?_
    refine z_al0 eX9_passHour_25 hne ?_
    first | refine z_tg0 (j := 2) lX9_37 eX9_passHour_26 rfl hT hA (by decide) rfl rfl rfl ?_ | refine z_tg (j := 2) lX9_37 eX9_passHour_26 rfl hT hA ⟨by decide, by decide⟩ rfl rfl rfl ?_
    rw [zset_f (by decide), zset_f (by decide), w2]
    refine z_iconst eX9_passHour_29 ?_
    refine z_iadd eX9_passHour_30 ?_
    refine z_sipush eX9_passHour_31 (by decide) ?_
    refine z_min eX9_passHour_34 vX9_51 rfl (Nat.le_of_ble_eq_true rfl) (Nat.le_of_ble_eq_true rfl) ⟨⟨by omega, by omega⟩, ⟨by omega, by omega⟩⟩ ?_
    first | refine z_tp0 (j := 2) lX9_37 eX9_passHour_37 rfl hT hA (by decide) rfl rfl rfl ?_ | refine z_tp (j := 2) lX9_37 eX9_passHour_37 rfl hT hA ⟨by decide, by decide⟩ rfl rfl rfl ?_
    refine z_return eX9_passHour_40 rfl ?_
    first | exact zZv ⟨(((zOut.refl _ _ _).set ⟨by omega, by omega⟩).set ⟨by omega, by omega⟩).set ⟨by omega, by omega⟩, hW0.hour0 (by omega)⟩ | exact zZv ⟨(zOut.refl _ _ _).set ⟨by omega, by omega⟩, hW0.hour1 (by omega)⟩
theorem c_X9_startChances {G : zG} {lay : zLay} {σ C0 : zMem} {nx x b : Int} (hT : TopL lay x) {M : Int → Int} (hA : WeAt b) (hW : WeR σ b M) (hM : zOK M) : zMM G 2 KX9_startChances [zP (x + b)] lay (tC x σ C0) nx (0, 0) (zZ' none (fun s => zOut b 4 σ s ∧ WeR s b M ∧ ∀ t, 0 ≤ t → t < 5 → s (b + 2) t = qCh0 M t) lay C0 nx x) := by
  refine z_met' (L := [zP (x + b)]) gX9_startChances.1 rfl rfl (Nat.le_of_ble_eq_true rfl) rfl ?_
  have hb0 := hA.b0 (by decide)
  have hx := hT.1
  have hne : x + b ≠ -1 := by omega
  have h5 := hM.1.s 5 rfl (by omega)
  have e0 : zfil σ (b + 2) 5 0 b = σ b := by funext j; unfold zfil; rw [if_neg (by omega)]
  refine z_al0 eX9_startChances_0 hne ?_
  first | refine z_ta0 lX9_28 eX9_startChances_1 rfl hT hA (by decide) rfl rfl ?_ | refine z_ta lX9_28 eX9_startChances_1 rfl hT hA ⟨by decide, by decide⟩ rfl rfl ?_
  refine z_iconst eX9_startChances_4 ?_
  refine z_S2v eX9_startChances_5 vX9_22 rfl rfl (Nat.le_of_ble_eq_true rfl) (Nat.le_of_ble_eq_true rfl) (c_J7_fill_53178 (by omega) (hA.LL hT ⟨by decide, by decide⟩) ⟨by decide, by decide⟩) ?_
  rw [tC_fil (hA.1 _ (by decide) (by decide)) (fun _ => hA.nn ⟨by decide, by decide⟩ rfl)]
  refine z_al0 eX9_startChances_8 hne ?_
  first | refine z_ta0 lX9_28 eX9_startChances_9 rfl hT hA (by decide) rfl rfl ?_ | refine z_ta lX9_28 eX9_startChances_9 rfl hT hA ⟨by decide, by decide⟩ rfl rfl ?_
  refine z_al0 eX9_startChances_12 hne ?_
  first | refine z_tg0 (j := 0) lX9_9 eX9_startChances_13 rfl hT hA (by decide) rfl rfl rfl ?_ | refine z_tg (j := 0) lX9_9 eX9_startChances_13 rfl hT hA ⟨by decide, by decide⟩ rfl rfl rfl ?_
  rw [e0, hW.1.1]
  refine z_sipush eX9_startChances_16 (by decide) ?_
  refine z_ts eX9_startChances_19 hT hA ⟨by decide, by decide⟩ rfl rfl ⟨by omega, by omega⟩ ?_
  refine z_return eX9_startChances_20 rfl ?_
  refine zZv ⟨fun i hi => ?_, hW.out ?_ ?_, fun t t0 t1 => ?_⟩
  · rw [zset_o (by omega)]; funext j; unfold zfil; rw [if_neg (by omega)]
  · rw [zset_o (by omega), e0]
  · rw [zset_o (by omega)]; funext j; unfold zfil; rw [if_neg (by omega)]
  · rw [zset_at]; unfold qCh0 zfil; by_cases e : t = M 5; rw [if_pos ⟨rfl, e⟩, if_pos e]; rw [if_neg (fun z => e z.2), if_pos ⟨rfl, t0, t1⟩, if_neg e]
theorem c_X9_give {G : zG} {lay : zLay} {σ C0 : zMem} {nx x b : Int} (hT : TopL lay x) {s : Int} {M : Int → Int} (hA : WeAt b) (hW : WeR σ b M) (hM : zOK M) (hc : zCh (σ (b + 2))) (hs : 0 ≤ s ∧ s < 5) : zMM G 2 KX9_give [zP (x + b), zI s] lay (tC x σ C0) nx (0, 0) (zZ' none (fun q => zOut (b + 3) 1 σ q ∧ ∀ t, 0 ≤ t → t < 5 → q (b + 3) t = σ (b + 3) t + qGoT M (σ (b + 2)) t s) lay C0 nx x) := by
  refine z_met' (L := [zP (x + b), zI s, zU, zU, zU, zU, zU, zU, zU]) gX9_give.1 rfl rfl (Nat.le_of_ble_eq_true rfl) rfl ?_
  have hb0 := hA.b0 (by decide)
  have hx := hT.1
  have hne : x + b ≠ -1 := by omega
  have hz := hM.2 s hs.1 (by omega)
  have hz2 := zsum_bnd (f := fun t => M (13 + 5 * s + t)) (c := 9) (n := 5) (by decide) (fun t t0 t1 => hM.1.W hs ⟨t0, t1⟩)
  have hcs := hc.bd hs.1 hs.2
  by_cases h0 : σ (b + 2) s = 0
  · have hg : ∀ t, qGoT M (σ (b + 2)) t s = 0 := by
      intro t
      have h1 : ∀ u, qShare M (σ (b + 2)) s u = 0 := fun u => by unfold qShare; rw [h0, Int.zero_mul, Int.zero_ediv]
      unfold qGoT qOver
      rw [h1, h0, zsum_congr (g := fun _ => 0) (fun u _ _ => h1 u), show zsum (fun _ => (0 : Int)) 5 = 0 from rfl]
      split <;> rfl
    refine z_al0 eX9_give_0 hne ?_
    refine z_il1 eX9_give_1 ?_
    refine z_V1 eX9_give_2 vX9_47 rfl rfl (Nat.le_of_ble_eq_true rfl) (Nat.le_of_ble_eq_true rfl) ((hA).L0 hT (by decide)) (c_X9_sumBehind hT hA hW ⟨by omega, by omega⟩) ?_
    refine z_is2 eX9_give_5 (Nat.ne_of_beq_eq_false rfl) ?_
    refine z_il2 eX9_give_6 ?_
    refine z_if_le (tgt := 19) eX9_give_7 rfl ⟨by omega, by omega⟩ (fun h7 => (by exfalso; omega)) (fun h7 => ?_)
    refine z_al0 eX9_give_10 hne ?_
    first | refine z_ta0 lX9_28 eX9_give_11 rfl hT hA (by decide) rfl rfl ?_ | refine z_ta lX9_28 eX9_give_11 rfl hT hA ⟨by decide, by decide⟩ rfl rfl ?_
    refine z_il1 eX9_give_14 ?_
    refine z_tl eX9_give_15 hT hA ⟨by decide, by decide⟩ rfl rfl ⟨by omega, by omega⟩ ?_
    refine z_if_ne (tgt := 20) eX9_give_16 rfl ⟨by omega, by omega⟩ (fun h16 => (by exfalso; omega)) (fun h16 => ?_)
    refine z_return eX9_give_19 rfl ?_
    exact zZv ⟨zOut.refl _ _ _, fun t _ _ => by rw [hg, Int.add_zero]⟩
  · generalize hQ : zZ' _ _ lay C0 nx x = Q
    have hin : ∀ t : Int, 0 ≤ t → t ≤ 5 → ∀ (S : zMem) (g : Int) (y7 y8 : zAV), y7.1 ≠ 1 → zOut (b + 3) 1 σ S → (∀ j, 0 ≤ j → j < 5 → S (b + 3) j = σ (b + 3) j + (if j < t then qShare M (σ (b + 2)) s j else 0)) → (t = 0 ∧ g = 0 ∨ 1 ≤ t ∧ g = M (13 + 5 * s + qTop M s t)) → zW G KX9_give 2 Q 36 [zP (x + b), zI s, zI (zsum (fun t => M (13 + 5 * s + t)) 5), zI (σ (b + 2) s - zsum (fun t => qShare M (σ (b + 2)) s t) t), zI g, zI (qTop M s t), zI t, y7, y8] [] lay (tC x S C0) nx (0, 0) := by
      refine z_up 5 ?_ ?_
      · intro S g y7 y8 hy hS hK hg
        subst hQ
        have ht := qTop_bd M s (n := 5) (by decide) (by decide)
        refine z_il6 eX9_give_36 ?_
        refine z_iconst eX9_give_38 ?_
        refine z_icmp_ge (tgt := 106) eX9_give_39 rfl ⟨⟨by omega, by omega⟩, ⟨by omega, by omega⟩⟩ (fun h39 => ?_) (fun h39 => (by exfalso; omega))
        refine z_al0 eX9_give_106 hne ?_
        first | refine z_ta0 lX9_31 eX9_give_107 rfl hT hA (by decide) rfl rfl ?_ | refine z_ta lX9_31 eX9_give_107 rfl hT hA ⟨by decide, by decide⟩ rfl rfl ?_
        refine z_il5 eX9_give_110 ?_
        refine z_dup2 eX9_give_112 (Nat.ne_of_beq_eq_false rfl) (Nat.ne_of_beq_eq_false rfl) ?_
        refine z_tl eX9_give_113 hT hA ⟨by decide, by decide⟩ rfl rfl ⟨by omega, by omega⟩ ?_
        refine z_il3 eX9_give_114 ?_
        refine z_iadd eX9_give_115 ?_
        refine z_ts eX9_give_116 hT hA ⟨by decide, by decide⟩ rfl rfl ⟨by omega, by omega⟩ ?_
        refine z_return eX9_give_117 rfl ?_
        refine zZv ⟨hS.set ⟨by omega, by omega⟩, fun t t0 t1 => ?_⟩
        rw [zset_at, show σ (b + 2) s - zsum (fun t => qShare M (σ (b + 2)) s t) 5 = qOver M (σ (b + 2)) s from rfl]
        unfold qGoT
        by_cases e : t = qTop M s 5
        · rw [if_pos ⟨rfl, e⟩, if_pos e, ← e, hK t t0 t1, if_pos t1]; omega
        · rw [if_neg (fun z => e z.2), if_neg e, hK t t0 t1, if_pos t1]; omega
      · intro t t0 t1 ih S g y7 y8 hy hS hK hg
        have ht := qTop_bd M s (n := t) t0 (by omega)
        have hw := hM.1.W (s := s) (t := t) hs ⟨t0, t1⟩
        have hw2 := hM.1.W (s := s) (t := qTop M s t) hs ht
        have hb := (qShare_bd (M := M) (c := σ (b + 2)) (s := s) (t := t) hcs hw hz).1
        have e1 : S (b + 1) = σ (b + 1) := hS _ (by omega)
        have e2 : S (b + 2) = σ (b + 2) := hS _ (by omega)
        have hK2 : ∀ j, 0 ≤ j → j < 5 → zset S (b + 3) t (S (b + 3) t + qShare M (σ (b + 2)) s t) (b + 3) j = σ (b + 3) j + (if j < t + 1 then qShare M (σ (b + 2)) s j else 0) := by
          intro j j0 j1
          rw [zset_at]
          by_cases e : j = t
          · rw [if_pos ⟨rfl, e⟩, hK t t0 t1, if_neg (by omega), if_pos (by omega), e]; omega
          · rw [if_neg (fun z => e z.2), hK j j0 j1]
            by_cases e2 : j < t
            · rw [if_pos e2, if_pos (by omega)]
            · rw [if_neg e2, if_neg (by omega)]
        have hov : σ (b + 2) s - zsum (fun t => qShare M (σ (b + 2)) s t) (t + 1) = σ (b + 2) s - zsum (fun t => qShare M (σ (b + 2)) s t) t - qShare M (σ (b + 2)) s t := by rw [zsum_s _ t0]; omega
        have htp : qTop M s (t + 1) = if M (13 + 5 * s + qTop M s t) < M (13 + 5 * s + t) then t else qTop M s t := by unfold qTop; rw [zfold_s _ _ t0]
        have hz0 : t = 0 → qTop M s t = 0 := fun z => by rw [z]; rfl
        have hmt : (t = 0 ∧ M (13 + 5 * s + qTop M s t) = M (13 + 5 * s + t)) ∨ 1 ≤ t := by
          by_cases z : t = 0
          · exact Or.inl ⟨z, by rw [hz0 z, z]⟩
          · exact Or.inr (by omega)
        have hup : g < M (13 + 5 * s + t) → qTop M s (t + 1) = t := by
          intro z
          rw [htp]
          by_cases t0' : t = 0
          · rw [hz0 t0', t0']; split <;> rfl
          · rw [if_pos (by omega)]
        have hst : ¬ g < M (13 + 5 * s + t) → qTop M s (t + 1) = qTop M s t ∧ g = M (13 + 5 * s + qTop M s t) := by
          intro z
          exact ⟨by rw [htp, if_neg (by omega)], by omega⟩
        refine z_il6 eX9_give_36 ?_
        refine z_iconst eX9_give_38 ?_
        refine z_icmp_ge (tgt := 106) eX9_give_39 rfl ⟨⟨by omega, by omega⟩, ⟨by omega, by omega⟩⟩ (fun h39 => (by exfalso; omega)) (fun h39 => ?_)
        refine z_al0 eX9_give_42 hne ?_
        first | refine z_ta0 lX9_18 eX9_give_43 rfl hT hA (by decide) rfl rfl ?_ | refine z_ta lX9_18 eX9_give_43 rfl hT hA ⟨by decide, by decide⟩ rfl rfl ?_
        refine z_il1 eX9_give_46 ?_
        refine z_iconst eX9_give_47 ?_
        refine z_imul eX9_give_48 ?_
        refine z_il6 eX9_give_49 ?_
        refine z_iadd eX9_give_51 ?_
        refine z_tl eX9_give_52 hT hA ⟨by decide, by decide⟩ rfl rfl ⟨by omega, by omega⟩ ?_
        rw [e1, hW.w hs ⟨by omega, by omega⟩]
        refine z_is7 eX9_give_53 (Nat.ne_of_beq_eq_false rfl) ?_
        refine z_al0 eX9_give_55 hne ?_
        first | refine z_ta0 lX9_28 eX9_give_56 rfl hT hA (by decide) rfl rfl ?_ | refine z_ta lX9_28 eX9_give_56 rfl hT hA ⟨by decide, by decide⟩ rfl rfl ?_
        refine z_il1 eX9_give_59 ?_
        refine z_tl eX9_give_60 hT hA ⟨by decide, by decide⟩ rfl rfl ⟨by omega, by omega⟩ ?_
        rw [e2]
        refine z_il7 eX9_give_61 ?_
        refine z_imul eX9_give_63 ?_
        refine z_il2 eX9_give_64 ?_
        refine z_idiv eX9_give_65 ⟨by omega, by omega, by omega, by omega⟩ ?_
        change zW _ _ _ _ _ _ (zI (qShare M (σ (b + 2)) s t) :: _) _ _ _ _
        refine z_is8 eX9_give_66 (Nat.ne_of_beq_eq_false rfl) ?_
        refine z_al0 eX9_give_68 hne ?_
        first | refine z_ta0 lX9_31 eX9_give_69 rfl hT hA (by decide) rfl rfl ?_ | refine z_ta lX9_31 eX9_give_69 rfl hT hA ⟨by decide, by decide⟩ rfl rfl ?_
        refine z_il6 eX9_give_72 ?_
        refine z_dup2 eX9_give_74 (Nat.ne_of_beq_eq_false rfl) (Nat.ne_of_beq_eq_false rfl) ?_
        refine z_tl eX9_give_75 hT hA ⟨by decide, by decide⟩ rfl rfl ⟨by omega, by omega⟩ ?_
        refine z_il8 eX9_give_76 ?_
        refine z_iadd eX9_give_78 ?_
        refine z_ts eX9_give_79 hT hA ⟨by decide, by decide⟩ rfl rfl ⟨by omega, by omega⟩ ?_
        refine z_il3 eX9_give_80 ?_
        refine z_il8 eX9_give_81 ?_
        refine z_isub eX9_give_83 ?_
        refine z_is3 eX9_give_84 (Nat.ne_of_beq_eq_false rfl) ?_
        refine z_il7 eX9_give_85 ?_
        refine z_il4 eX9_give_87 ?_
        refine z_icmp_le (tgt := 100) eX9_give_89 rfl ⟨⟨by omega, by omega⟩, ⟨by omega, by omega⟩⟩ (fun h89 => ?_) (fun h89 => ?_)
        · refine z_ii6 eX9_give_100 (Nat.ne_of_beq_eq_false rfl) ?_
          refine z_goto eX9_give_103 (tgt := 36) rfl ?_
          rw [← hov]
          first | (rw [hup (by omega)] at ih; exact ih _ _ _ _ (Nat.ne_of_beq_eq_false rfl) (hS.set ⟨by omega, by omega⟩) hK2 (Or.inr ⟨by omega, rfl⟩)) | (rw [(hst (by omega)).1] at ih; exact ih _ _ _ _ (Nat.ne_of_beq_eq_false rfl) (hS.set ⟨by omega, by omega⟩) hK2 (Or.inr ⟨by omega, (hst (by omega)).2⟩)) | fail
        · refine z_il7 eX9_give_92 ?_
          refine z_is4 eX9_give_94 (Nat.ne_of_beq_eq_false rfl) ?_
          refine z_il6 eX9_give_96 ?_
          refine z_is5 eX9_give_98 (Nat.ne_of_beq_eq_false rfl) ?_
          refine z_ii6 eX9_give_100 (Nat.ne_of_beq_eq_false rfl) ?_
          refine z_goto eX9_give_103 (tgt := 36) rfl ?_
          rw [← hov]
          first | (rw [hup (by omega)] at ih; exact ih _ _ _ _ (Nat.ne_of_beq_eq_false rfl) (hS.set ⟨by omega, by omega⟩) hK2 (Or.inr ⟨by omega, rfl⟩)) | (rw [(hst (by omega)).1] at ih; exact ih _ _ _ _ (Nat.ne_of_beq_eq_false rfl) (hS.set ⟨by omega, by omega⟩) hK2 (Or.inr ⟨by omega, (hst (by omega)).2⟩)) | fail
    have h0' := hin 0 (by decide) (by decide) σ 0 zU zU (Nat.ne_of_beq_eq_false rfl) (zOut.refl _ _ _) (fun j j0 j1 => by rw [if_neg (by omega), Int.add_zero]) (Or.inl ⟨rfl, rfl⟩)
    rw [zsum_0, Int.sub_zero] at h0'
    refine z_al0 eX9_give_0 hne ?_
    refine z_il1 eX9_give_1 ?_
    refine z_V1 eX9_give_2 vX9_47 rfl rfl (Nat.le_of_ble_eq_true rfl) (Nat.le_of_ble_eq_true rfl) ((hA).L0 hT (by decide)) (c_X9_sumBehind hT hA hW ⟨by omega, by omega⟩) ?_
    refine z_is2 eX9_give_5 (Nat.ne_of_beq_eq_false rfl) ?_
    refine z_il2 eX9_give_6 ?_
    refine z_if_le (tgt := 19) eX9_give_7 rfl ⟨by omega, by omega⟩ (fun h7 => (by exfalso; omega)) (fun h7 => ?_)
    refine z_al0 eX9_give_10 hne ?_
    first | refine z_ta0 lX9_28 eX9_give_11 rfl hT hA (by decide) rfl rfl ?_ | refine z_ta lX9_28 eX9_give_11 rfl hT hA ⟨by decide, by decide⟩ rfl rfl ?_
    refine z_il1 eX9_give_14 ?_
    refine z_tl eX9_give_15 hT hA ⟨by decide, by decide⟩ rfl rfl ⟨by omega, by omega⟩ ?_
    refine z_if_ne (tgt := 20) eX9_give_16 rfl ⟨by omega, by omega⟩ (fun h16 => ?_) (fun h16 => (by exfalso; omega))
    refine z_al0 eX9_give_20 hne ?_
    first | refine z_ta0 lX9_28 eX9_give_21 rfl hT hA (by decide) rfl rfl ?_ | refine z_ta lX9_28 eX9_give_21 rfl hT hA ⟨by decide, by decide⟩ rfl rfl ?_
    refine z_il1 eX9_give_24 ?_
    refine z_tl eX9_give_25 hT hA ⟨by decide, by decide⟩ rfl rfl ⟨by omega, by omega⟩ ?_
    refine z_is3 eX9_give_26 (Nat.ne_of_beq_eq_false rfl) ?_
    refine z_iconst eX9_give_27 ?_
    refine z_is4 eX9_give_28 (Nat.ne_of_beq_eq_false rfl) ?_
    refine z_iconst eX9_give_30 ?_
    refine z_is5 eX9_give_31 (Nat.ne_of_beq_eq_false rfl) ?_
    refine z_iconst eX9_give_33 ?_
    refine z_is6 eX9_give_34 (Nat.ne_of_beq_eq_false rfl) ?_
    exact h0'
