/-! Sides, on. -/
theorem SiR.out {σ s : zMem} {M : Int → Int} (h : SiR σ M) (h0 : s 307 = σ 307) (h2 : s 309 = σ 309) : SiR s M := by
  unfold SiR
  rw [h0, h2]
  exact h
theorem c_X8_weigh {G : zG} {lay : zLay} {σ C0 : zMem} {nx x b : Int} (hT : TopL lay x) {M : Int → Int} (hB : CoAt b) (hd : b + 18 ≤ 307 ∨ 310 ≤ b) (hN : CoN σ b M) (hM : zOK M) : zMM G 3 KX8_weigh [zP (x + 307), zP (x + b)] lay (tC x σ C0) nx (0, 0) (zZ' none (fun q => zOut 307 3 σ q ∧ SiR q M) lay C0 nx x) := by
  refine z_met' (L := [zP (x + 307), zP (x + b), zU]) gX8_weigh.1 rfl rfl (Nat.le_of_ble_eq_true rfl) rfl ?_
  have hA := SiAt
  have hb0 := hB.b0 (by decide)
  have hx := hT.1
  have hne : x + 307 ≠ -1 := by omega
  have hI := hM.1
  have hm3 := hI.m3
  have hl : ∀ t : Int, 0 ≤ t → t ≤ M 3 → ∀ S : zMem, zOut 307 3 σ S → S 307 0 = qVoters M → S 307 2 = qVotesOf M (qVoters M) → (∀ i, 0 ≤ i → i < t → S 309 i = M (46 + 4 * i + 1)) → zW G KX8_weigh 3 (zZ' none (fun q => zOut 307 3 σ q ∧ SiR q M) lay C0 nx x) 31 [zP (x + 307), zP (x + b), zI t] [] lay (tC x S C0) nx (0, 0) := by
    refine z_up (M 3) ?_ ?_
    · intro S hS h1 h2 h3
      have eb : ∀ i, 0 ≤ i → i < 18 → S (b + i) = σ (b + i) := fun i i0 i1 => hS _ (by omega)
      have e0 := eb 0 (by decide) (by decide)
      rw [Int.add_zero] at e0
      have hfin : SiR (zset S (307 + 2) 7 (M 10)) M := by
        refine ⟨by rw [zset_o (by decide)]; exact h1, by rw [zset_o (by decide)]; exact h2, fun i i0 i1 hi => ?_⟩
        unfold qGi
        by_cases e : i = 7
        · rw [if_pos e, e]; exact zset_eq
        · rw [if_neg e, show (307 : Int) + 2 = 309 by decide, zset_f e]
          have := (qVoters_B M ⟨i0, i1⟩).mp hi
          exact h3 i i0 ((qOuts_B hM ⟨i0, by omega⟩).mp (this.resolve_right e)).1
      refine z_il2 eX8_weigh_31 ?_
      refine z_al1 eX8_weigh_32 (by omega) ?_
      first | refine z_tg0 (j := 1) lX8_36 eX8_weigh_33 rfl hT hB (by decide) rfl rfl rfl ?_ | refine z_tg (j := 1) lX8_36 eX8_weigh_33 rfl hT hB ⟨by decide, by decide⟩ rfl rfl rfl ?_
      rw [e0, hN.n3]
      refine z_icmp_ge (tgt := 57) eX8_weigh_36 rfl ⟨⟨by omega, by omega⟩, ⟨by omega, by omega⟩⟩ (fun h36 => ?_) (fun h36 => (by exfalso; omega))
      refine z_al0 eX8_weigh_57 hne ?_
      first | refine z_ta0 lX8_15 eX8_weigh_58 rfl hT hA (by decide) rfl rfl ?_ | refine z_ta lX8_15 eX8_weigh_58 rfl hT hA ⟨by decide, by decide⟩ rfl rfl ?_
      refine z_bipush eX8_weigh_61 (by decide) ?_
      refine z_al1 eX8_weigh_63 (by omega) ?_
      first | refine z_tg0 (j := 9) lX8_30 eX8_weigh_64 rfl hT hB (by decide) rfl rfl rfl ?_ | refine z_tg (j := 9) lX8_30 eX8_weigh_64 rfl hT hB ⟨by decide, by decide⟩ rfl rfl rfl ?_
      rw [e0, hN.n10]
      refine z_ts eX8_weigh_67 hT hA ⟨by decide, by decide⟩ rfl rfl ⟨by omega, by omega⟩ ?_
      refine z_return eX8_weigh_68 rfl ?_
      exact zZv ⟨hS.set ⟨by omega, by omega⟩, hfin⟩
    · intro t t0 t1 ih S hS h1 h2 h3
      have eb : ∀ i, 0 ≤ i → i < 18 → S (b + i) = σ (b + i) := fun i i0 i1 => hS _ (by omega)
      have e0 := eb 0 (by decide) (by decide)
      rw [Int.add_zero] at e0
      refine z_il2 eX8_weigh_31 ?_
      refine z_al1 eX8_weigh_32 (by omega) ?_
      first | refine z_tg0 (j := 1) lX8_36 eX8_weigh_33 rfl hT hB (by decide) rfl rfl rfl ?_ | refine z_tg (j := 1) lX8_36 eX8_weigh_33 rfl hT hB ⟨by decide, by decide⟩ rfl rfl rfl ?_
      rw [e0, hN.n3]
      refine z_icmp_ge (tgt := 57) eX8_weigh_36 rfl ⟨⟨by omega, by omega⟩, ⟨by omega, by omega⟩⟩ (fun h36 => (by exfalso; omega)) (fun h36 => ?_)
      refine z_al0 eX8_weigh_39 hne ?_
      first | refine z_ta0 lX8_15 eX8_weigh_40 rfl hT hA (by decide) rfl rfl ?_ | refine z_ta lX8_15 eX8_weigh_40 rfl hT hA ⟨by decide, by decide⟩ rfl rfl ?_
      refine z_il2 eX8_weigh_43 ?_
      refine z_al1 eX8_weigh_44 (by omega) ?_
      first | refine z_ta0 lX8_39 eX8_weigh_45 rfl hT hB (by decide) rfl rfl ?_ | refine z_ta lX8_39 eX8_weigh_45 rfl hT hB ⟨by decide, by decide⟩ rfl rfl ?_
      refine z_il2 eX8_weigh_48 ?_
      refine z_tl eX8_weigh_49 hT hB ⟨by decide, by decide⟩ rfl rfl ⟨by omega, by omega⟩ ?_
      rw [eb 2 (by decide) (by decide), hN.se t t0 t1]
      refine z_ts eX8_weigh_50 hT hA ⟨by decide, by decide⟩ rfl rfl ⟨by omega, by omega⟩ ?_
      refine z_ii2 eX8_weigh_51 (Nat.ne_of_beq_eq_false rfl) ?_
      refine z_goto eX8_weigh_54 (tgt := 31) rfl ?_
      refine ih _ (hS.set ⟨by omega, by omega⟩) (by rw [zset_o (by decide)]; exact h1) (by rw [zset_o (by decide)]; exact h2) (fun i i0 i1 => ?_)
      by_cases e : i = t
      · rw [e]; exact zset_eq
      · rw [show (309 : Int) = 307 + 2 by decide, zset_f e]; exact h3 i i0 (by omega)
  refine z_al0 eX8_weigh_0 hne ?_
  refine z_al1 eX8_weigh_1 (by omega) ?_
  first | refine z_tg0 (j := 5) lX8_18 eX8_weigh_2 rfl hT hB (by decide) rfl rfl rfl ?_ | refine z_tg (j := 5) lX8_18 eX8_weigh_2 rfl hT hB ⟨by decide, by decide⟩ rfl rfl rfl ?_
  rw [hN.ou]
  refine z_sipush eX8_weigh_5 (by decide) ?_
  refine z_ior eX8_weigh_8 ?_
  first | refine z_tp0 (j := 0) lX8_24 eX8_weigh_9 rfl hT hA (by decide) rfl rfl rfl ?_ | refine z_tp (j := 0) lX8_24 eX8_weigh_9 rfl hT hA ⟨by decide, by decide⟩ rfl rfl rfl ?_
  refine z_al0 eX8_weigh_12 hne ?_
  refine z_al1 eX8_weigh_13 (by omega) ?_
  refine z_al1 eX8_weigh_14 (by omega) ?_
  first | refine z_tg0 (j := 5) lX8_18 eX8_weigh_15 rfl hT hB (by decide) rfl rfl rfl ?_ | refine z_tg (j := 5) lX8_18 eX8_weigh_15 rfl hT hB ⟨by decide, by decide⟩ rfl rfl rfl ?_
  rw [zset_o (by omega), hN.ou]
  refine z_V1 eX8_weigh_18 vX8_27 rfl rfl (Nat.le_of_ble_eq_true rfl) (Nat.le_of_ble_eq_true rfl) ((hB).L0 hT (by decide)) (c_X1_seatsOf hT hB (hN.out (fun i i0 i1 _ _ => zset_o (by omega))) hI) ?_
  refine z_al1 eX8_weigh_21 (by omega) ?_
  first | refine z_tg0 (j := 9) lX8_30 eX8_weigh_22 rfl hT hB (by decide) rfl rfl rfl ?_ | refine z_tg (j := 9) lX8_30 eX8_weigh_22 rfl hT hB ⟨by decide, by decide⟩ rfl rfl rfl ?_
  rw [zset_o (by omega), hN.n10]
  refine z_iadd eX8_weigh_25 ?_
  rw [qAll_q hM]
  first | refine z_tp0 (j := 2) lX8_33 eX8_weigh_26 rfl hT hA (by decide) rfl rfl rfl ?_ | refine z_tp (j := 2) lX8_33 eX8_weigh_26 rfl hT hA ⟨by decide, by decide⟩ rfl rfl rfl ?_
  refine z_iconst eX8_weigh_29 ?_
  refine z_is2 eX8_weigh_30 (Nat.ne_of_beq_eq_false rfl) ?_
  exact hl 0 (by decide) hm3.1 _ (((zOut.refl _ _ _).set ⟨by omega, by omega⟩).set ⟨by omega, by omega⟩) (by rw [zset_f (by decide), zset_eq]; rfl) zset_eq (fun i i0 i1 => absurd i1 (by omega))
theorem c_X8_isWinning {G : zG} {lay : zLay} {σ C0 : zMem} {nx x : Int} (hT : TopL lay x) {side : Int} {M : Int → Int} (hR : SiR σ M) (hs : qSub M side) (hM : zOK M) : zMM G 3 KX8_isWinning [zP (x + 307), zI side] lay (tC x σ C0) nx (0, 0) (zR (some (zI (zbi (qWins M side)))) lay (tC x (σ) (C0)) nx) := by
  refine z_met' (L := [zP (x + 307), zI side]) gX8_isWinning.1 rfl rfl (Nat.le_of_ble_eq_true rfl) rfl ?_
  have hA := SiAt
  have hne : x + 307 ≠ -1 := by have := hT.1; omega
  have h1 := qVs_bd hM hs
  have h2 := qVotesOf_bd hM (qVoters M)
  unfold qWins
  rw [← qVs_q hM hs]
  refine z_iconst eX8_isWinning_0 ?_
  refine z_al0 eX8_isWinning_1 hne ?_
  refine z_il1 eX8_isWinning_2 ?_
  refine z_V1 eX8_isWinning_3 vX8_46 rfl rfl (Nat.le_of_ble_eq_true rfl) (Nat.le_of_ble_eq_true rfl) ((hA).L0 hT (by decide)) (c_X8_seatsIn hT hR hs) ?_
  refine z_imul eX8_isWinning_6 ?_
  refine z_al0 eX8_isWinning_7 hne ?_
  first | refine z_tg0 (j := 2) lX8_33 eX8_isWinning_8 rfl hT hA (by decide) rfl rfl rfl ?_ | refine z_tg (j := 2) lX8_33 eX8_isWinning_8 rfl hT hA ⟨by decide, by decide⟩ rfl rfl rfl ?_
  rw [hR.al]
  refine z_icmp_le (tgt := 18) eX8_isWinning_11 rfl ⟨⟨by omega, by omega⟩, ⟨by omega, by omega⟩⟩ (fun h11 => ?_) (fun h11 => ?_)
  · refine z_iconst eX8_isWinning_18 ?_
    refine z_zreturn eX8_isWinning_19 rfl (by first | exact Or.inl rfl | exact Or.inr rfl | exact zbi_01 _ | assumption | omega) ?_
    first | exact ⟨rfl, rfl, rfl, rfl⟩ | exact zRb1 (by omega) | exact zRb0 (by omega) | exact zRe (by omega)
  · refine z_iconst eX8_isWinning_14 ?_
    refine z_goto eX8_isWinning_15 (tgt := 19) rfl ?_
    refine z_zreturn eX8_isWinning_19 rfl (by first | exact Or.inl rfl | exact Or.inr rfl | exact zbi_01 _ | assumption | omega) ?_
    first | exact ⟨rfl, rfl, rfl, rfl⟩ | exact zRb1 (by omega) | exact zRb0 (by omega) | exact zRe (by omega)
theorem c_X8_isMinimal {G : zG} {lay : zLay} {σ C0 : zMem} {nx x : Int} (hT : TopL lay x) {side : Int} {M : Int → Int} (hR : SiR σ M) (hs : qSub M side) (hM : zOK M) : zMM G 3 KX8_isMinimal [zP (x + 307), zI side] lay (tC x σ C0) nx (0, 0) (zR (some (zI (zbi (qLeast M side 8)))) lay (tC x (σ) (C0)) nx) := by
  refine z_met' (L := [zP (x + 307), zI side, zU, zU]) gX8_isMinimal.1 rfl rfl (Nat.le_of_ble_eq_true rfl) rfl ?_
  have hA := SiAt
  have hne : x + 307 ≠ -1 := by have := hT.1; omega
  have h1 := qVs_bd hM hs
  have h2 := qVotesOf_bd hM (qVoters M)
  have hl : qWins M side → ∀ t : Int, 0 ≤ t → t ≤ 8 → (∀ p, 0 ≤ p → p < t → zbit side p = 1 → qSwings M side p) → zW G KX8_isMinimal 3 (zR (some (zI (zbi (qLeast M side 8)))) lay (tC x σ C0) nx) 20 [zP (x + 307), zI side, zI (qVs M side), zI t] [] lay (tC x σ C0) nx (0, 0) := by
    intro hw
    refine z_up 8 ?_ ?_
    · intro hp
      refine z_il3 eX8_isMinimal_20 ?_
      refine z_bipush eX8_isMinimal_21 (by decide) ?_
      refine z_icmp_gt (tgt := 60) eX8_isMinimal_23 rfl ⟨⟨by omega, by omega⟩, ⟨by omega, by omega⟩⟩ (fun h23 => ?_) (fun h23 => (by exfalso; omega))
      refine z_iconst eX8_isMinimal_60 ?_
      refine z_zreturn eX8_isMinimal_61 rfl (by first | exact Or.inl rfl | exact Or.inr rfl | exact zbi_01 _ | assumption | omega) ?_
      rw [zbi_t ⟨hw, hp⟩]; exact ⟨rfl, rfl, rfl, rfl⟩
    · intro t t0 t1 ih hp
      have z01 := zbit_01 side t
      have hg := qGi_bd hM ⟨t0, t1⟩
      have hq := qSwings_q hM ⟨t0, t1⟩ hs
      have hx' : (zbit side t = 1 → qSwings M side t) → ∀ p, 0 ≤ p → p < t + 1 → zbit side p = 1 → qSwings M side p := by
        intro z p p0 p1 h
        by_cases e : p = t
        · rw [e] at h ⊢; exact z h
        · exact hp p p0 (by omega) h
      refine z_il3 eX8_isMinimal_20 ?_
      refine z_bipush eX8_isMinimal_21 (by decide) ?_
      refine z_icmp_gt (tgt := 60) eX8_isMinimal_23 rfl ⟨⟨by omega, by omega⟩, ⟨by omega, by omega⟩⟩ (fun h23 => (by exfalso; omega)) (fun h23 => ?_)
      refine z_il1 eX8_isMinimal_26 ?_
      refine z_il3 eX8_isMinimal_27 ?_
      refine z_N2 eX8_isMinimal_28 vX8_42 rfl (Nat.le_of_ble_eq_true rfl) (Nat.le_of_ble_eq_true rfl) (c_X11_bitOf hT ⟨by omega, by omega⟩) ?_
      refine z_iconst eX8_isMinimal_31 ?_
      refine z_icmp_ne (tgt := 54) eX8_isMinimal_32 rfl ⟨⟨by omega, by omega⟩, ⟨by omega, by omega⟩⟩ (fun h32 => ?_) (fun h32 => ?_)
      · refine z_ii3 eX8_isMinimal_54 (Nat.ne_of_beq_eq_false rfl) ?_
        refine z_goto eX8_isMinimal_57 (tgt := 20) rfl ?_
        first | exact ih (hx' (fun z => hq.mpr ⟨z, hw, by omega⟩)) | exact ih (hx' (fun z => absurd z (by omega))) | fail
      · refine z_iconst eX8_isMinimal_35 ?_
        refine z_il2 eX8_isMinimal_36 ?_
        refine z_al0 eX8_isMinimal_37 hne ?_
        first | refine z_ta0 lX8_15 eX8_isMinimal_38 rfl hT hA (by decide) rfl rfl ?_ | refine z_ta lX8_15 eX8_isMinimal_38 rfl hT hA ⟨by decide, by decide⟩ rfl rfl ?_
        refine z_il3 eX8_isMinimal_41 ?_
        refine z_tl eX8_isMinimal_42 hT hA ⟨by decide, by decide⟩ rfl rfl ⟨by omega, by omega⟩ ?_
        rw [show σ (307 + 2) t = σ 309 t from rfl, hR.se t t0 t1 (hs t t0 t1 h32)]
        refine z_isub eX8_isMinimal_43 ?_
        refine z_imul eX8_isMinimal_44 ?_
        refine z_al0 eX8_isMinimal_45 hne ?_
        first | refine z_tg0 (j := 2) lX8_33 eX8_isMinimal_46 rfl hT hA (by decide) rfl rfl rfl ?_ | refine z_tg (j := 2) lX8_33 eX8_isMinimal_46 rfl hT hA ⟨by decide, by decide⟩ rfl rfl rfl ?_
        rw [hR.al]
        refine z_icmp_le (tgt := 54) eX8_isMinimal_49 rfl ⟨⟨by omega, by omega⟩, ⟨by omega, by omega⟩⟩ (fun h49 => ?_) (fun h49 => ?_)
        · refine z_ii3 eX8_isMinimal_54 (Nat.ne_of_beq_eq_false rfl) ?_
          refine z_goto eX8_isMinimal_57 (tgt := 20) rfl ?_
          first | exact ih (hx' (fun z => hq.mpr ⟨z, hw, by omega⟩)) | exact ih (hx' (fun z => absurd z (by omega))) | fail
        · refine z_iconst eX8_isMinimal_52 ?_
          refine z_zreturn eX8_isMinimal_53 rfl (by first | exact Or.inl rfl | exact Or.inr rfl | exact zbi_01 _ | assumption | omega) ?_
          rw [zbi_f (fun z => by have := (hq.mp (z.2 t t0 t1 (by omega))).2.2; omega)]; exact ⟨rfl, rfl, rfl, rfl⟩
  have hw : qWins M side ↔ qVotesOf M (qVoters M) < 2 * qVs M side := by unfold qWins; rw [qVs_q hM hs]
  refine z_al0 eX8_isMinimal_0 hne ?_
  refine z_il1 eX8_isMinimal_1 ?_
  refine z_V1 eX8_isMinimal_2 vX8_46 rfl rfl (Nat.le_of_ble_eq_true rfl) (Nat.le_of_ble_eq_true rfl) ((hA).L0 hT (by decide)) (c_X8_seatsIn hT hR hs) ?_
  refine z_is2 eX8_isMinimal_5 (Nat.ne_of_beq_eq_false rfl) ?_
  refine z_iconst eX8_isMinimal_6 ?_
  refine z_il2 eX8_isMinimal_7 ?_
  refine z_imul eX8_isMinimal_8 ?_
  refine z_al0 eX8_isMinimal_9 hne ?_
  first | refine z_tg0 (j := 2) lX8_33 eX8_isMinimal_10 rfl hT hA (by decide) rfl rfl rfl ?_ | refine z_tg (j := 2) lX8_33 eX8_isMinimal_10 rfl hT hA ⟨by decide, by decide⟩ rfl rfl rfl ?_
  rw [hR.al]
  refine z_icmp_gt (tgt := 18) eX8_isMinimal_13 rfl ⟨⟨by omega, by omega⟩, ⟨by omega, by omega⟩⟩ (fun h13 => ?_) (fun h13 => ?_)
  · refine z_iconst eX8_isMinimal_18 ?_
    refine z_is3 eX8_isMinimal_19 (Nat.ne_of_beq_eq_false rfl) ?_
    exact hl (hw.mpr (by omega)) 0 (by decide) (by decide) (fun p p0 p1 => absurd p1 (by omega))
  · refine z_iconst eX8_isMinimal_16 ?_
    refine z_zreturn eX8_isMinimal_17 rfl (by first | exact Or.inl rfl | exact Or.inr rfl | exact zbi_01 _ | assumption | omega) ?_
    rw [zbi_f (fun z => by have := hw.mp z.1; omega)]; exact ⟨rfl, rfl, rfl, rfl⟩
theorem c_X8_addSwings {G : zG} {lay : zLay} {σ C0 : zMem} {nx x : Int} (hT : TopL lay x) {side : Int} {M : Int → Int} (hR : SiR σ M) (hs : qSub M side) (hM : zOK M) (hw : qWins M side) (hb : ∀ i, 0 ≤ i → i < 8 → 0 ≤ σ 308 i ∧ σ 308 i < 1000) : zMM G 3 KX8_addSwings [zP (x + 307), zI side] lay (tC x σ C0) nx (0, 0) (zZ' none (fun q => zOut 308 1 σ q ∧ ∀ p, 0 ≤ p → p < 8 → q 308 p = σ 308 p + zbi (qSwings M side p)) lay C0 nx x) := by
  refine z_met' (L := [zP (x + 307), zI side, zU, zU]) gX8_addSwings.1 rfl rfl (Nat.le_of_ble_eq_true rfl) rfl ?_
  have hA := SiAt
  have hne : x + 307 ≠ -1 := by have := hT.1; omega
  have h1 := qVs_bd hM hs
  have h2 := qVotesOf_bd hM (qVoters M)
  have hl : ∀ t : Int, 0 ≤ t → t ≤ 8 → ∀ S : zMem, zOut 308 1 σ S → (∀ p, 0 ≤ p → p < 8 → S 308 p = σ 308 p + (if p < t then zbi (qSwings M side p) else 0)) → zW G KX8_addSwings 3 (zZ' none (fun q => zOut 308 1 σ q ∧ ∀ p, 0 ≤ p → p < 8 → q 308 p = σ 308 p + zbi (qSwings M side p)) lay C0 nx x) 8 [zP (x + 307), zI side, zI (qVs M side), zI t] [] lay (tC x S C0) nx (0, 0) := by
    refine z_up 8 ?_ ?_
    · intro S hS hK
      refine z_il3 eX8_addSwings_8 ?_
      refine z_bipush eX8_addSwings_9 (by decide) ?_
      refine z_icmp_gt (tgt := 56) eX8_addSwings_11 rfl ⟨⟨by omega, by omega⟩, ⟨by omega, by omega⟩⟩ (fun h11 => ?_) (fun h11 => (by exfalso; omega))
      refine z_return eX8_addSwings_56 rfl ?_
      exact zZv ⟨hS, fun p p0 p1 => by rw [hK p p0 p1, if_pos p1]⟩
    · intro t t0 t1 ih S hS hK
      have hR : SiR S M := hR.out (hS _ (by decide)) (hS _ (by decide))
      have z01 := zbit_01 side t
      have hg := qGi_bd hM ⟨t0, t1⟩
      have hq := qSwings_q hM ⟨t0, t1⟩ hs
      have hyes : qSwings M side t → ∀ p, 0 ≤ p → p < 8 → zset S 308 t (S 308 t + 1) 308 p = σ 308 p + (if p < t + 1 then zbi (qSwings M side p) else 0) := by
        intro z p p0 p1
        by_cases e : p = t
        · rw [e, zset_eq, hK t t0 t1, if_neg (by omega), if_pos (by omega), zbi_t z, Int.add_zero]
        · rw [zset_f e, hK p p0 p1]
          by_cases e2 : p < t
          · rw [if_pos e2, if_pos (by omega)]
          · rw [if_neg e2, if_neg (by omega)]
      have hno : ¬ qSwings M side t → ∀ p, 0 ≤ p → p < 8 → S 308 p = σ 308 p + (if p < t + 1 then zbi (qSwings M side p) else 0) := by
        intro z p p0 p1
        rw [hK p p0 p1]
        by_cases e : p = t
        · rw [e, if_neg (by omega), if_pos (by omega), zbi_f z]
        · by_cases e2 : p < t
          · rw [if_pos e2, if_pos (by omega)]
          · rw [if_neg e2, if_neg (by omega)]
      refine z_il3 eX8_addSwings_8 ?_
      refine z_bipush eX8_addSwings_9 (by decide) ?_
      refine z_icmp_gt (tgt := 56) eX8_addSwings_11 rfl ⟨⟨by omega, by omega⟩, ⟨by omega, by omega⟩⟩ (fun h11 => (by exfalso; omega)) (fun h11 => ?_)
      refine z_il1 eX8_addSwings_14 ?_
      refine z_il3 eX8_addSwings_15 ?_
      refine z_N2 eX8_addSwings_16 vX8_42 rfl (Nat.le_of_ble_eq_true rfl) (Nat.le_of_ble_eq_true rfl) (c_X11_bitOf hT ⟨by omega, by omega⟩) ?_
      refine z_iconst eX8_addSwings_19 ?_
      refine z_icmp_ne (tgt := 50) eX8_addSwings_20 rfl ⟨⟨by omega, by omega⟩, ⟨by omega, by omega⟩⟩ (fun h20 => ?_) (fun h20 => ?_)
      · refine z_ii3 eX8_addSwings_50 (Nat.ne_of_beq_eq_false rfl) ?_
        refine z_goto eX8_addSwings_53 (tgt := 8) rfl ?_
        first | exact ih _ hS (hno (fun z => by have := (hq.mp z); omega)) | exact ih _ (hS.set ⟨by decide, by decide⟩) (hyes (hq.mpr ⟨h20, hw, by omega⟩)) | fail
      · refine z_iconst eX8_addSwings_23 ?_
        refine z_il2 eX8_addSwings_24 ?_
        refine z_al0 eX8_addSwings_25 hne ?_
        first | refine z_ta0 lX8_15 eX8_addSwings_26 rfl hT hA (by decide) rfl rfl ?_ | refine z_ta lX8_15 eX8_addSwings_26 rfl hT hA ⟨by decide, by decide⟩ rfl rfl ?_
        refine z_il3 eX8_addSwings_29 ?_
        refine z_tl eX8_addSwings_30 hT hA ⟨by decide, by decide⟩ rfl rfl ⟨by omega, by omega⟩ ?_
        rw [show S (307 + 2) t = S 309 t from rfl, hR.se t t0 t1 (hs t t0 t1 h20)]
        refine z_isub eX8_addSwings_31 ?_
        refine z_imul eX8_addSwings_32 ?_
        refine z_al0 eX8_addSwings_33 hne ?_
        first | refine z_tg0 (j := 2) lX8_33 eX8_addSwings_34 rfl hT hA (by decide) rfl rfl rfl ?_ | refine z_tg (j := 2) lX8_33 eX8_addSwings_34 rfl hT hA ⟨by decide, by decide⟩ rfl rfl rfl ?_
        rw [hR.al]
        refine z_icmp_gt (tgt := 50) eX8_addSwings_37 rfl ⟨⟨by omega, by omega⟩, ⟨by omega, by omega⟩⟩ (fun h37 => ?_) (fun h37 => ?_)
        · refine z_ii3 eX8_addSwings_50 (Nat.ne_of_beq_eq_false rfl) ?_
          refine z_goto eX8_addSwings_53 (tgt := 8) rfl ?_
          first | exact ih _ hS (hno (fun z => by have := (hq.mp z); omega)) | exact ih _ (hS.set ⟨by decide, by decide⟩) (hyes (hq.mpr ⟨h20, hw, by omega⟩)) | fail
        · refine z_al0 eX8_addSwings_40 hne ?_
          first | refine z_ta0 lX8_9 eX8_addSwings_41 rfl hT hA (by decide) rfl rfl ?_ | refine z_ta lX8_9 eX8_addSwings_41 rfl hT hA ⟨by decide, by decide⟩ rfl rfl ?_
          refine z_il3 eX8_addSwings_44 ?_
          refine z_dup2 eX8_addSwings_45 (Nat.ne_of_beq_eq_false rfl) (Nat.ne_of_beq_eq_false rfl) ?_
          refine z_tl eX8_addSwings_46 hT hA ⟨by decide, by decide⟩ rfl rfl ⟨by omega, by omega⟩ ?_
          refine z_iconst eX8_addSwings_47 ?_
          refine z_iadd eX8_addSwings_48 ?_
          refine z_ts eX8_addSwings_49 hT hA ⟨by decide, by decide⟩ rfl rfl ⟨by omega, by omega⟩ ?_
          refine z_ii3 eX8_addSwings_50 (Nat.ne_of_beq_eq_false rfl) ?_
          refine z_goto eX8_addSwings_53 (tgt := 8) rfl ?_
          first | exact ih _ hS (hno (fun z => by have := (hq.mp z); omega)) | exact ih _ (hS.set ⟨by decide, by decide⟩) (hyes (hq.mpr ⟨h20, hw, by omega⟩)) | fail
  refine z_al0 eX8_addSwings_0 hne ?_
  refine z_il1 eX8_addSwings_1 ?_
  refine z_V1 eX8_addSwings_2 vX8_46 rfl rfl (Nat.le_of_ble_eq_true rfl) (Nat.le_of_ble_eq_true rfl) ((hA).L0 hT (by decide)) (c_X8_seatsIn hT hR hs) ?_
  refine z_is2 eX8_addSwings_5 (Nat.ne_of_beq_eq_false rfl) ?_
  refine z_iconst eX8_addSwings_6 ?_
  refine z_is3 eX8_addSwings_7 (Nat.ne_of_beq_eq_false rfl) ?_
  exact hl 0 (by decide) (by decide) σ (zOut.refl _ _ _) (fun p p0 p1 => by rw [if_neg (by omega), Int.add_zero])
