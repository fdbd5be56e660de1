/-! Sides of the council now. -/
def zSd (σ s : zMem) (M : Int → Int) : Prop := zOut 307 3 σ s ∧ SiR s M
theorem zSd.sw {σ s q : zMem} {M : Int → Int} (h : zSd σ s M) (hq : zOut 308 1 s q) : zSd σ q M := by
  refine ⟨h.1.trans (hq.sub ⟨by omega, by omega⟩), ?_⟩
  have e7 := hq 307 (by omega)
  have e9 := hq 309 (by omega)
  exact ⟨by rw [e7]; exact h.2.pr, by rw [e7]; exact h.2.al, fun i i0 i1 hi => by rw [e9]; exact h.2.se i i0 i1 hi⟩
theorem qVoters_in (M : Int → Int) : zin (qVoters M) := zor_in _ _
theorem qWins_and {M : Int → Int} (hM : zOK M) (side : Int) : qVotesOf M (zand side (qVoters M)) = qVotesOf M side := by
  have h3 := hM.1.m3
  unfold qVotesOf
  have e7 : zbit (zand side (qVoters M)) 7 = 1 ↔ zbit side 7 = 1 := by
    rw [zbit_and ⟨by decide, by decide⟩]
    exact ⟨fun z => z.1, fun z => ⟨z, (qVoters_B M (i := 7) ⟨by decide, by decide⟩).mpr (Or.inr rfl)⟩⟩
  have es : zsum (fun p => if zbit (zand (zand side (qVoters M)) (qOuts M)) p = 1 then M (46 + 4 * p + 1) else 0) (M 3) = zsum (fun p => if zbit (zand side (qOuts M)) p = 1 then M (46 + 4 * p + 1) else 0) (M 3) := zsum_congr (fun p p0 p1 => by
    have e : zbit (zand (zand side (qVoters M)) (qOuts M)) p = 1 ↔ zbit (zand side (qOuts M)) p = 1 := by
      rw [zbit_and ⟨p0, by omega⟩, zbit_and ⟨p0, by omega⟩, zbit_and ⟨p0, by omega⟩, qVoters_B M ⟨p0, by omega⟩]
      exact ⟨fun z => ⟨z.1.1, z.2⟩, fun z => ⟨⟨z.1, Or.inl z.2⟩, z.2⟩⟩
    by_cases z : zbit (zand side (qOuts M)) p = 1
    · rw [if_pos z, if_pos (e.mpr z)]
    · rw [if_neg z, if_neg (fun y => z (e.mp y))])
  rw [es]
  by_cases z : zbit side 7 = 1
  · rw [if_pos z, if_pos (e7.mpr z)]
  · rw [if_neg z, if_neg (fun y => z (e7.mp y))]
theorem qSub_and (M : Int → Int) (side : Int) : qSub M (zand side (qVoters M)) := fun i i0 i1 h => ((zbit_and ⟨i0, by omega⟩).mp h).2
theorem c_X11_wins {G : zG} {lay : zLay} {σ C0 : zMem} {nx x : Int} (hT : TopL lay x) {side : Int} {M : Int → Int} (hN : CoN σ (0 + 2) M) (hM : zOC M) : zMM G 4 KX11_wins [zP (x + 0), zI side] lay (tC x σ C0) nx (0, 0) (zZ' (some (zI (zbi (qWins M side)))) (fun q => zSd σ q M) lay C0 nx x) := by
  refine z_met' (L := [zP (x + 0), zI side]) gX11_wins.1 rfl rfl (Nat.le_of_ble_eq_true rfl) rfl ?_
  have hA := TpAt
  have hx := hT.1
  have hne : x + 0 ≠ -1 := by omega
  have hD := isCo.now
  refine z_al0 eX11_wins_0 hne ?_
  first | refine z_ta0 lX11_58 eX11_wins_1 rfl hT hA (by decide) rfl rfl ?_ | refine z_ta lX11_58 eX11_wins_1 rfl hT hA ⟨by decide, by decide⟩ rfl rfl ?_
  refine z_al0 eX11_wins_4 hne ?_
  first | refine z_ta0 lX11_20 eX11_wins_5 rfl hT hA (by decide) rfl rfl ?_ | refine z_ta lX11_20 eX11_wins_5 rfl hT hA ⟨by decide, by decide⟩ rfl rfl ?_
  refine z_V1vz eX11_wins_8 vX11_345 rfl rfl (Nat.le_of_ble_eq_true rfl) (Nat.le_of_ble_eq_true rfl) ((SiAt).L0 hT (by decide)) (c_X8_weigh hT hD (by decide) hN hM.ol.1) (fun s8 hs8 => ?_)
  refine z_al0 eX11_wins_11 hne ?_
  first | refine z_ta0 lX11_58 eX11_wins_12 rfl hT hA (by decide) rfl rfl ?_ | refine z_ta lX11_58 eX11_wins_12 rfl hT hA ⟨by decide, by decide⟩ rfl rfl ?_
  refine z_il1 eX11_wins_15 ?_
  refine z_al0 eX11_wins_16 hne ?_
  first | refine z_ta0 lX11_58 eX11_wins_17 rfl hT hA (by decide) rfl rfl ?_ | refine z_ta lX11_58 eX11_wins_17 rfl hT hA ⟨by decide, by decide⟩ rfl rfl ?_
  first | refine z_tg0 (j := 0) lX11_348 eX11_wins_20 rfl hT SiAt (by decide) rfl rfl rfl ?_ | refine z_tg (j := 0) lX11_348 eX11_wins_20 rfl hT SiAt ⟨by decide, by decide⟩ rfl rfl rfl ?_
  rw [show s8 (0 + 307) 0 = qVoters M from hs8.2.pr]
  refine z_iand eX11_wins_23 ?_
  refine z_V1 eX11_wins_24 vX11_351 rfl rfl (Nat.le_of_ble_eq_true rfl) (Nat.le_of_ble_eq_true rfl) ((SiAt).L0 hT (by decide)) (c_X8_isWinning hT hs8.2 (qSub_and M side) hM.ol.1) ?_
  refine z_zreturn eX11_wins_27 rfl (by first | exact Or.inl rfl | exact Or.inr rfl | exact zbi_01 _ | assumption | omega) ?_
  exact zZe hs8 (by unfold qWins; rw [qWins_and hM.ol.1])
theorem c_X11_swings {G : zG} {lay : zLay} {σ C0 : zMem} {nx x : Int} (hT : TopL lay x) {p : Int} {M : Int → Int} (hN : CoN σ (0 + 2) M) (hM : zOC M) (hp : zin p) : zMM G 9 KX11_swings [zP (x + 0), zI p] lay (tC x σ C0) nx (1, 6) (zGd (p = 7 ∨ 0 ≤ p ∧ p < M 3) zEb lay (tC x σ C0) nx (zZ' (some (zI (qSwOf M p 256))) (fun q => zSd σ q M) lay C0 nx x)) := by
  refine z_met' (L := [zP (x + 0), zI p]) gX11_swings.1 rfl rfl (Nat.le_of_ble_eq_true rfl) rfl ?_
  have hA := TpAt
  have hx := hT.1
  have hne : x + 0 ≠ -1 := by omega
  have hD := isCo.now
  have hm3 := hM.I.m3
  have hv : (p = 7 ∨ 0 ≤ p ∧ p < M 3) → 0 ≤ p ∧ p < 8 := by omega
  refine z_al0 eX11_swings_0 hne ?_
  refine z_il1 eX11_swings_1 ?_
  refine z_ndV1 (n := 0) eX11_swings_2 vX11_355 rfl rfl (Nat.le_of_ble_eq_true rfl) (Nat.le_of_ble_eq_true rfl) (hA.L0 hT (by decide)) (c_X11_needVoter hT hN hM (by assumption)) (fun hP2 => ?_) (fun hN2 => (by first | exact Or.inr ⟨(by first | assumption | exact ⟨by omega, by omega⟩ | omega), rfl, rfl, rfl, rfl⟩))
  refine z_al0 eX11_swings_5 hne ?_
  first | refine z_ta0 lX11_58 eX11_swings_6 rfl hT hA (by decide) rfl rfl ?_ | refine z_ta lX11_58 eX11_swings_6 rfl hT hA ⟨by decide, by decide⟩ rfl rfl ?_
  refine z_al0 eX11_swings_9 hne ?_
  first | refine z_ta0 lX11_20 eX11_swings_10 rfl hT hA (by decide) rfl rfl ?_ | refine z_ta lX11_20 eX11_swings_10 rfl hT hA ⟨by decide, by decide⟩ rfl rfl ?_
  refine z_V1vz eX11_swings_13 vX11_345 rfl rfl (Nat.le_of_ble_eq_true rfl) (Nat.le_of_ble_eq_true rfl) ((SiAt).L0 hT (by decide)) (c_X8_weigh hT hD (by decide) hN hM.ol.1) (fun s13 hs13 => ?_)
  refine z_al0 eX11_swings_16 hne ?_
  first | refine z_ta0 lX11_58 eX11_swings_17 rfl hT hA (by decide) rfl rfl ?_ | refine z_ta lX11_58 eX11_swings_17 rfl hT hA ⟨by decide, by decide⟩ rfl rfl ?_
  refine z_V0vz eX11_swings_20 vX11_358 rfl rfl (Nat.le_of_ble_eq_true rfl) (Nat.le_of_ble_eq_true rfl) ((SiAt).L0 hT (by decide)) (c_X8_countSwings hT hs13.2 hM.ol.1) (fun s20 hs20 => ?_)
  refine z_al0 eX11_swings_23 hne ?_
  first | refine z_ta0 lX11_58 eX11_swings_24 rfl hT hA (by decide) rfl rfl ?_ | refine z_ta lX11_58 eX11_swings_24 rfl hT hA ⟨by decide, by decide⟩ rfl rfl ?_
  first | refine z_ta0 lX11_361 eX11_swings_27 rfl hT SiAt (by decide) rfl rfl ?_ | refine z_ta lX11_361 eX11_swings_27 rfl hT SiAt ⟨by decide, by decide⟩ rfl rfl ?_
  refine z_il1 eX11_swings_30 ?_
  refine z_tl eX11_swings_31 hT SiAt ⟨by decide, by decide⟩ rfl rfl ⟨(hv hP2).1, (hv hP2).2⟩ ?_
  refine z_ireturn eX11_swings_32 rfl ?_
  rw [show s20 (0 + 307 + 1) p = qSwOf M p 256 from hs20.2 p (hv hP2).1 (hv hP2).2]
  exact Or.inl ⟨hP2, zZe (zSd.sw hs13 hs20.1) rfl⟩
theorem c_X11_power {G : zG} {lay : zLay} {σ C0 : zMem} {nx x : Int} (hT : TopL lay x) {p : Int} {M : Int → Int} (hN : CoN σ (0 + 2) M) (hM : zOC M) (hp : zin p) : zMM G 9 KX11_power [zP (x + 0), zI p] lay (tC x σ C0) nx (1, 6) (zGd (p = 7 ∨ 0 ≤ p ∧ p < M 3) zEb lay (tC x σ C0) nx (zZ' (some (zI (qPower M p))) (fun q => zSd σ q M) lay C0 nx x)) := by
  refine z_met' (L := [zP (x + 0), zI p, zU, zU]) gX11_power.1 rfl rfl (Nat.le_of_ble_eq_true rfl) rfl ?_
  have hA := TpAt
  have hx := hT.1
  have hne : x + 0 ≠ -1 := by omega
  have hD := isCo.now
  have hm3 := hM.I.m3
  have hv : (p = 7 ∨ 0 ≤ p ∧ p < M 3) → 0 ≤ p ∧ p < 8 := by omega
  have hsb : ∀ t, 0 ≤ t → 0 ≤ zsum (fun k => qSwOf M k 256) t ∧ zsum (fun k => qSwOf M k 256) t ≤ 256 * t := fun t t0 => zsum_bnd t0 (fun k _ _ => by have := qSwOf_bd M k (n := 256) (by decide); omega)
  have hl : ∀ (S : zMem) (Q : zQ), Q (.inl (some (zI (qPower M p)))) lay (tC x S C0) nx → 0 ≤ p ∧ p < 8 → (∀ k, 0 ≤ k → k < 8 → S (0 + 307 + 1) k = qSwOf M k 256) → ∀ t : Int, 0 ≤ t → t ≤ 8 → zW G KX11_power 9 Q 27 [zP (x + 0), zI p, zI (zsum (fun k => qSwOf M k 256) t), zI t] [] lay (tC x S C0) nx (0, 0) := by
    intro S Q hq hp8 hS
    refine z_up 8 ?_ ?_
    · have h8 := hsb 8 (by decide)
      have hb := qSwOf_bd M p (n := 256) (by decide)
      unfold qPower at hq
      refine z_il3 eX11_power_27 ?_
      refine z_bipush eX11_power_28 (by decide) ?_
      refine z_icmp_gt (tgt := 51) eX11_power_30 rfl ⟨⟨by omega, by omega⟩, ⟨by omega, by omega⟩⟩ (fun h30 => ?_) (fun h30 => (by exfalso; omega))
      refine z_il2 eX11_power_51 ?_
      refine z_if_le (tgt := 72) eX11_power_52 rfl ⟨by omega, by omega⟩ (fun h52 => ?_) (fun h52 => ?_)
      · refine z_iconst eX11_power_72 ?_
        refine z_ireturn eX11_power_73 rfl ?_
        first | (rw [if_neg (by omega)] at hq; exact hq) | (rw [if_pos (by omega)] at hq; exact hq) | fail
      · refine z_bipush eX11_power_55 (by decide) ?_
        refine z_al0 eX11_power_57 hne ?_
        first | refine z_ta0 lX11_58 eX11_power_58 rfl hT hA (by decide) rfl rfl ?_ | refine z_ta lX11_58 eX11_power_58 rfl hT hA ⟨by decide, by decide⟩ rfl rfl ?_
        first | refine z_ta0 lX11_361 eX11_power_61 rfl hT SiAt (by decide) rfl rfl ?_ | refine z_ta lX11_361 eX11_power_61 rfl hT SiAt ⟨by decide, by decide⟩ rfl rfl ?_
        refine z_il1 eX11_power_64 ?_
        refine z_tl eX11_power_65 hT SiAt ⟨by decide, by decide⟩ rfl rfl ⟨by omega, by omega⟩ ?_
        rw [hS p hp8.1 hp8.2]
        refine z_imul eX11_power_66 ?_
        refine z_il2 eX11_power_67 ?_
        refine z_idiv eX11_power_68 ⟨by omega, by omega, by omega, by omega⟩ ?_
        refine z_goto eX11_power_69 (tgt := 73) rfl ?_
        refine z_ireturn eX11_power_73 rfl ?_
        first | (rw [if_neg (by omega)] at hq; exact hq) | (rw [if_pos (by omega)] at hq; exact hq) | fail
    · intro t t0 t1 ih
      have h8 := hsb t t0
      have hb := qSwOf_bd M t (n := 256) (by decide)
      have e : zsum (fun k => qSwOf M k 256) (t + 1) = zsum (fun k => qSwOf M k 256) t + qSwOf M t 256 := zsum_s _ t0
      rw [e] at ih
      refine z_il3 eX11_power_27 ?_
      refine z_bipush eX11_power_28 (by decide) ?_
      refine z_icmp_gt (tgt := 51) eX11_power_30 rfl ⟨⟨by omega, by omega⟩, ⟨by omega, by omega⟩⟩ (fun h30 => (by exfalso; omega)) (fun h30 => ?_)
      refine z_il2 eX11_power_33 ?_
      refine z_al0 eX11_power_34 hne ?_
      first | refine z_ta0 lX11_58 eX11_power_35 rfl hT hA (by decide) rfl rfl ?_ | refine z_ta lX11_58 eX11_power_35 rfl hT hA ⟨by decide, by decide⟩ rfl rfl ?_
      first | refine z_ta0 lX11_361 eX11_power_38 rfl hT SiAt (by decide) rfl rfl ?_ | refine z_ta lX11_361 eX11_power_38 rfl hT SiAt ⟨by decide, by decide⟩ rfl rfl ?_
      refine z_il3 eX11_power_41 ?_
      refine z_tl eX11_power_42 hT SiAt ⟨by decide, by decide⟩ rfl rfl ⟨by omega, by omega⟩ ?_
      rw [hS t t0 t1]
      refine z_iadd eX11_power_43 ?_
      refine z_is2 eX11_power_44 (Nat.ne_of_beq_eq_false rfl) ?_
      refine z_ii3 eX11_power_45 (Nat.ne_of_beq_eq_false rfl) ?_
      refine z_goto eX11_power_48 (tgt := 27) rfl ?_
      exact ih
  refine z_al0 eX11_power_0 hne ?_
  refine z_il1 eX11_power_1 ?_
  refine z_ndV1 (n := 0) eX11_power_2 vX11_355 rfl rfl (Nat.le_of_ble_eq_true rfl) (Nat.le_of_ble_eq_true rfl) (hA.L0 hT (by decide)) (c_X11_needVoter hT hN hM (by assumption)) (fun hP2 => ?_) (fun hN2 => (by first | exact Or.inr ⟨(by first | assumption | exact ⟨by omega, by omega⟩ | omega), rfl, rfl, rfl, rfl⟩))
  refine z_al0 eX11_power_5 hne ?_
  first | refine z_ta0 lX11_58 eX11_power_6 rfl hT hA (by decide) rfl rfl ?_ | refine z_ta lX11_58 eX11_power_6 rfl hT hA ⟨by decide, by decide⟩ rfl rfl ?_
  refine z_al0 eX11_power_9 hne ?_
  first | refine z_ta0 lX11_20 eX11_power_10 rfl hT hA (by decide) rfl rfl ?_ | refine z_ta lX11_20 eX11_power_10 rfl hT hA ⟨by decide, by decide⟩ rfl rfl ?_
  refine z_V1vz eX11_power_13 vX11_345 rfl rfl (Nat.le_of_ble_eq_true rfl) (Nat.le_of_ble_eq_true rfl) ((SiAt).L0 hT (by decide)) (c_X8_weigh hT hD (by decide) hN hM.ol.1) (fun s13 hs13 => ?_)
  refine z_al0 eX11_power_16 hne ?_
  first | refine z_ta0 lX11_58 eX11_power_17 rfl hT hA (by decide) rfl rfl ?_ | refine z_ta lX11_58 eX11_power_17 rfl hT hA ⟨by decide, by decide⟩ rfl rfl ?_
  refine z_V0vz eX11_power_20 vX11_358 rfl rfl (Nat.le_of_ble_eq_true rfl) (Nat.le_of_ble_eq_true rfl) ((SiAt).L0 hT (by decide)) (c_X8_countSwings hT hs13.2 hM.ol.1) (fun s20 hs20 => ?_)
  refine z_iconst eX11_power_23 ?_
  refine z_is2 eX11_power_24 (Nat.ne_of_beq_eq_false rfl) ?_
  refine z_iconst eX11_power_25 ?_
  refine z_is3 eX11_power_26 (Nat.ne_of_beq_eq_false rfl) ?_
  exact hl _ _ (Or.inl ⟨hP2, zZe (zSd.sw hs13 hs20.1) rfl⟩) (hv hP2) hs20.2 0 (by decide) (by decide)
theorem c_X11_minimal {G : zG} {lay : zLay} {σ C0 : zMem} {nx x : Int} (hT : TopL lay x) {M : Int → Int} (hN : CoN σ (0 + 2) M) (hM : zOC M) : zMM G 4 KX11_minimal [zP (x + 0)] lay (tC x σ C0) nx (0, 0) (zZ' (some (zI (qMinimal M 256))) (fun q => zSd σ q M) lay C0 nx x) := by
  refine z_met' (L := [zP (x + 0), zU, zU]) gX11_minimal.1 rfl rfl (Nat.le_of_ble_eq_true rfl) rfl ?_
  have hA := TpAt
  have hx := hT.1
  have hne : x + 0 ≠ -1 := by omega
  have hD := isCo.now
  have hl : ∀ (S : zMem), zSd σ S M → ∀ t : Int, 0 ≤ t → t ≤ 256 → zW G KX11_minimal 4 (zZ' (some (zI (qMinimal M 256))) (fun q => zSd σ q M) lay C0 nx x) 15 [zP (x + 0), zI (qMinimal M t), zI t] [] lay (tC x S C0) nx (0, 0) := by
    intro S hS
    refine z_up 256 ?_ ?_
    · skip
      refine z_il2 eX11_minimal_15 ?_
      refine z_sipush eX11_minimal_16 (by decide) ?_
      refine z_icmp_ge (tgt := 56) eX11_minimal_19 rfl ⟨⟨by omega, by omega⟩, ⟨by omega, by omega⟩⟩ (fun h19 => ?_) (fun h19 => (by exfalso; omega))
      refine z_il1 eX11_minimal_56 ?_
      refine z_ireturn eX11_minimal_57 rfl ?_
      exact zZe hS rfl
    · intro t t0 t1 ih
      have hb : 0 ≤ qMinimal M t ∧ qMinimal M t ≤ 1 * t := zsum_bnd t0 (fun k _ _ => by have := zbi_01 (zand k (zxor (qVoters M) (-1)) = 0 ∧ qLeast M k 8); omega)
      have e : qMinimal M (t + 1) = qMinimal M t + zbi (zand t (zxor (qVoters M) (-1)) = 0 ∧ qLeast M t 8) := zsum_s _ t0
      rw [e] at ih
      refine z_il2 eX11_minimal_15 ?_
      refine z_sipush eX11_minimal_16 (by decide) ?_
      refine z_icmp_ge (tgt := 56) eX11_minimal_19 rfl ⟨⟨by omega, by omega⟩, ⟨by omega, by omega⟩⟩ (fun h19 => (by exfalso; omega)) (fun h19 => ?_)
      refine z_il2 eX11_minimal_22 ?_
      refine z_al0 eX11_minimal_23 hne ?_
      first | refine z_ta0 lX11_58 eX11_minimal_24 rfl hT hA (by decide) rfl rfl ?_ | refine z_ta lX11_58 eX11_minimal_24 rfl hT hA ⟨by decide, by decide⟩ rfl rfl ?_
      first | refine z_tg0 (j := 0) lX11_348 eX11_minimal_27 rfl hT SiAt (by decide) rfl rfl rfl ?_ | refine z_tg (j := 0) lX11_348 eX11_minimal_27 rfl hT SiAt ⟨by decide, by decide⟩ rfl rfl rfl ?_
      refine z_iconst eX11_minimal_30 ?_
      rw [show S (0 + 307) 0 = qVoters M from hS.2.pr]
      refine z_ixor eX11_minimal_31 ?_
      refine z_iand eX11_minimal_32 ?_
      refine z_if_ne (tgt := 50) eX11_minimal_33 rfl (zand_in t (zxor (qVoters M) (-1))) (fun h33 => ?_) (fun h33 => ?_)
      · refine z_ii2 eX11_minimal_50 (Nat.ne_of_beq_eq_false rfl) ?_
        refine z_goto eX11_minimal_53 (tgt := 15) rfl ?_
        first | (have e3 := h44; first | (rw [zbi_t ⟨h33, e3⟩] at ih; exact ih) | (rw [zbi_f (fun z => e3 z.2), Int.add_zero (qMinimal M t)] at ih; exact ih)) | (rw [zbi_f (fun z => h33 z.1), Int.add_zero (qMinimal M t)] at ih; exact ih) | fail
      · refine z_al0 eX11_minimal_36 hne ?_
        first | refine z_ta0 lX11_58 eX11_minimal_37 rfl hT hA (by decide) rfl rfl ?_ | refine z_ta lX11_58 eX11_minimal_37 rfl hT hA ⟨by decide, by decide⟩ rfl rfl ?_
        refine z_il2 eX11_minimal_40 ?_
        refine z_V1 eX11_minimal_41 vX11_364 rfl rfl (Nat.le_of_ble_eq_true rfl) (Nat.le_of_ble_eq_true rfl) ((SiAt).L0 hT (by decide)) (c_X8_isMinimal hT hS.2 (fun i i0 i1 hi => zand_0.mp h33 i i0 (by omega) hi) hM.ol.1) ?_
        refine z_ifb_eq (tgt := 50) eX11_minimal_44 rfl (fun h44 => ?_) (fun h44 => ?_)
        · refine z_ii2 eX11_minimal_50 (Nat.ne_of_beq_eq_false rfl) ?_
          refine z_goto eX11_minimal_53 (tgt := 15) rfl ?_
          first | (have e3 := h44; first | (rw [zbi_t ⟨h33, e3⟩] at ih; exact ih) | (rw [zbi_f (fun z => e3 z.2), Int.add_zero (qMinimal M t)] at ih; exact ih)) | (rw [zbi_f (fun z => h33 z.1), Int.add_zero (qMinimal M t)] at ih; exact ih) | fail
        · refine z_ii1 eX11_minimal_47 (Nat.ne_of_beq_eq_false rfl) ?_
          refine z_ii2 eX11_minimal_50 (Nat.ne_of_beq_eq_false rfl) ?_
          refine z_goto eX11_minimal_53 (tgt := 15) rfl ?_
          first | (have e3 := h44; first | (rw [zbi_t ⟨h33, e3⟩] at ih; exact ih) | (rw [zbi_f (fun z => e3 z.2), Int.add_zero (qMinimal M t)] at ih; exact ih)) | (rw [zbi_f (fun z => h33 z.1), Int.add_zero (qMinimal M t)] at ih; exact ih) | fail
  refine z_al0 eX11_minimal_0 hne ?_
  first | refine z_ta0 lX11_58 eX11_minimal_1 rfl hT hA (by decide) rfl rfl ?_ | refine z_ta lX11_58 eX11_minimal_1 rfl hT hA ⟨by decide, by decide⟩ rfl rfl ?_
  refine z_al0 eX11_minimal_4 hne ?_
  first | refine z_ta0 lX11_20 eX11_minimal_5 rfl hT hA (by decide) rfl rfl ?_ | refine z_ta lX11_20 eX11_minimal_5 rfl hT hA ⟨by decide, by decide⟩ rfl rfl ?_
  refine z_V1vz eX11_minimal_8 vX11_345 rfl rfl (Nat.le_of_ble_eq_true rfl) (Nat.le_of_ble_eq_true rfl) ((SiAt).L0 hT (by decide)) (c_X8_weigh hT hD (by decide) hN hM.ol.1) (fun s8 hs8 => ?_)
  refine z_iconst eX11_minimal_11 ?_
  refine z_is1 eX11_minimal_12 (Nat.ne_of_beq_eq_false rfl) ?_
  refine z_iconst eX11_minimal_13 ?_
  refine z_is2 eX11_minimal_14 (Nat.ne_of_beq_eq_false rfl) ?_
  exact hl _ hs8 0 (by decide) (by decide)
theorem c_X11_leader {G : zG} {lay : zLay} {σ C0 : zMem} {nx x : Int} (hT : TopL lay x) {M : Int → Int} (hN : CoN σ (0 + 2) M) (hM : zOC M) : zMM G 5 KX11_leader [zP (x + 0)] lay (tC x σ C0) nx (0, 0) (zZ' (some (zI (qMax (fun p => qSwOf M p 256) (-1) 0 8).1)) (fun q => zSd σ q M) lay C0 nx x) := by
  refine z_met' (L := [zP (x + 0), zU, zU, zU]) gX11_leader.1 rfl rfl (Nat.le_of_ble_eq_true rfl) rfl ?_
  have hA := TpAt
  have hx := hT.1
  have hne : x + 0 ≠ -1 := by omega
  have hD := isCo.now
  have hl : ∀ (S : zMem), zSd σ S M → (∀ k, 0 ≤ k → k < 8 → S (0 + 307 + 1) k = qSwOf M k 256) → ∀ t : Int, 0 ≤ t → t ≤ 8 → zW G KX11_leader 5 (zZ' (some (zI (qMax (fun p => qSwOf M p 256) (-1) 0 8).1)) (fun q => zSd σ q M) lay C0 nx x) 24 [zP (x + 0), zI (qMax (fun p => qSwOf M p 256) (-1) 0 t).2, zI (qMax (fun p => qSwOf M p 256) (-1) 0 t).1, zI t] [] lay (tC x S C0) nx (0, 0) := by
    intro S hS hS8
    refine z_up 8 ?_ ?_
    · skip
      refine z_il3 eX11_leader_24 ?_
      refine z_bipush eX11_leader_25 (by decide) ?_
      refine z_icmp_gt (tgt := 61) eX11_leader_27 rfl ⟨⟨by omega, by omega⟩, ⟨by omega, by omega⟩⟩ (fun h27 => ?_) (fun h27 => (by exfalso; omega))
      refine z_il2 eX11_leader_61 ?_
      refine z_ireturn eX11_leader_62 rfl ?_
      exact zZe hS rfl
    · intro t t0 t1 ih
      have hb := qSwOf_bd M t (n := 256) (by decide)
      have hm := qMax_bd (f := fun p => qSwOf M p 256) (f0 := -1) (m0 := 0) (c := 256) (by decide) t t0 (fun j _ _ => by have := qSwOf_bd M j (n := 256) (by decide); omega)
      have e8 := hS8 t t0 t1
      rw [qMax_s _ _ _ t0] at ih
      refine z_il3 eX11_leader_24 ?_
      refine z_bipush eX11_leader_25 (by decide) ?_
      refine z_icmp_gt (tgt := 61) eX11_leader_27 rfl ⟨⟨by omega, by omega⟩, ⟨by omega, by omega⟩⟩ (fun h27 => (by exfalso; omega)) (fun h27 => ?_)
      refine z_al0 eX11_leader_30 hne ?_
      first | refine z_ta0 lX11_58 eX11_leader_31 rfl hT hA (by decide) rfl rfl ?_ | refine z_ta lX11_58 eX11_leader_31 rfl hT hA ⟨by decide, by decide⟩ rfl rfl ?_
      first | refine z_ta0 lX11_361 eX11_leader_34 rfl hT SiAt (by decide) rfl rfl ?_ | refine z_ta lX11_361 eX11_leader_34 rfl hT SiAt ⟨by decide, by decide⟩ rfl rfl ?_
      refine z_il3 eX11_leader_37 ?_
      refine z_tl eX11_leader_38 hT SiAt ⟨by decide, by decide⟩ rfl rfl ⟨by omega, by omega⟩ ?_
      refine z_il1 eX11_leader_39 ?_
      rw [e8]
      refine z_icmp_le (tgt := 55) eX11_leader_40 rfl ⟨⟨by omega, by omega⟩, ⟨by omega, by omega⟩⟩ (fun h40 => ?_) (fun h40 => ?_)
      · refine z_ii3 eX11_leader_55 (Nat.ne_of_beq_eq_false rfl) ?_
        refine z_goto eX11_leader_58 (tgt := 24) rfl ?_
        first | (rw [if_pos (by omega)] at ih; exact ih) | (rw [if_neg (by omega)] at ih; exact ih) | fail
      · refine z_al0 eX11_leader_43 hne ?_
        first | refine z_ta0 lX11_58 eX11_leader_44 rfl hT hA (by decide) rfl rfl ?_ | refine z_ta lX11_58 eX11_leader_44 rfl hT hA ⟨by decide, by decide⟩ rfl rfl ?_
        first | refine z_ta0 lX11_361 eX11_leader_47 rfl hT SiAt (by decide) rfl rfl ?_ | refine z_ta lX11_361 eX11_leader_47 rfl hT SiAt ⟨by decide, by decide⟩ rfl rfl ?_
        refine z_il3 eX11_leader_50 ?_
        refine z_tl eX11_leader_51 hT SiAt ⟨by decide, by decide⟩ rfl rfl ⟨by omega, by omega⟩ ?_
        rw [e8]
        refine z_is1 eX11_leader_52 (Nat.ne_of_beq_eq_false rfl) ?_
        refine z_il3 eX11_leader_53 ?_
        refine z_is2 eX11_leader_54 (Nat.ne_of_beq_eq_false rfl) ?_
        refine z_ii3 eX11_leader_55 (Nat.ne_of_beq_eq_false rfl) ?_
        refine z_goto eX11_leader_58 (tgt := 24) rfl ?_
        first | (rw [if_pos (by omega)] at ih; exact ih) | (rw [if_neg (by omega)] at ih; exact ih) | fail
  refine z_al0 eX11_leader_0 hne ?_
  first | refine z_ta0 lX11_58 eX11_leader_1 rfl hT hA (by decide) rfl rfl ?_ | refine z_ta lX11_58 eX11_leader_1 rfl hT hA ⟨by decide, by decide⟩ rfl rfl ?_
  refine z_al0 eX11_leader_4 hne ?_
  first | refine z_ta0 lX11_20 eX11_leader_5 rfl hT hA (by decide) rfl rfl ?_ | refine z_ta lX11_20 eX11_leader_5 rfl hT hA ⟨by decide, by decide⟩ rfl rfl ?_
  refine z_V1vz eX11_leader_8 vX11_345 rfl rfl (Nat.le_of_ble_eq_true rfl) (Nat.le_of_ble_eq_true rfl) ((SiAt).L0 hT (by decide)) (c_X8_weigh hT hD (by decide) hN hM.ol.1) (fun s8 hs8 => ?_)
  refine z_al0 eX11_leader_11 hne ?_
  first | refine z_ta0 lX11_58 eX11_leader_12 rfl hT hA (by decide) rfl rfl ?_ | refine z_ta lX11_58 eX11_leader_12 rfl hT hA ⟨by decide, by decide⟩ rfl rfl ?_
  refine z_V0vz eX11_leader_15 vX11_358 rfl rfl (Nat.le_of_ble_eq_true rfl) (Nat.le_of_ble_eq_true rfl) ((SiAt).L0 hT (by decide)) (c_X8_countSwings hT hs8.2 hM.ol.1) (fun s15 hs15 => ?_)
  refine z_iconst eX11_leader_18 ?_
  refine z_is1 eX11_leader_19 (Nat.ne_of_beq_eq_false rfl) ?_
  refine z_iconst eX11_leader_20 ?_
  refine z_is2 eX11_leader_21 (Nat.ne_of_beq_eq_false rfl) ?_
  refine z_iconst eX11_leader_22 ?_
  refine z_is3 eX11_leader_23 (Nat.ne_of_beq_eq_false rfl) ?_
  exact hl _ (zSd.sw hs8 hs15.1) hs15.2 0 (by decide) (by decide)
