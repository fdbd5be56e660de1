/-! Sets counted; the worst sky, foes, the soaked. -/
theorem zshl_0i {t : Int} (h : 0 ≤ t ∧ t < 32) : zshl 0 t = 0 := by
  have := zshl_0 t.toNat (by omega)
  rwa [Int.toNat_of_nonneg h.1] at this
theorem qCnt_bit {u : Int} : qCnt u = zsum (fun t => zbit u t) 8 := by
  unfold qCnt
  exact zsum_congr (fun t t0 t1 => (zbit_B u t0 (by omega)).symm)
theorem qbits_zors {f g : Int → Int} {n : Int} (hn : 0 ≤ n ∧ n ≤ 8) (hf : ∀ t, 0 ≤ t → t < n → f t = zshl (g t) t) (hg : ∀ t, 0 ≤ t → t < n → g t = 0 ∨ g t = 1) : (0 ≤ zors f n ∧ zors f n < 256) ∧ qbits (zors f n) = zsum g n := by
  rw [zors_congr hf]
  have hb : ∀ i : Int, 0 ≤ i → i < 32 → (zbit (zors (fun t => zshl (g t) t) n) i = 1 ↔ i < n ∧ g i = 1) := fun i i0 i1 => zbit_01s ⟨hn.1, by omega⟩ hg ⟨i0, i1⟩
  have hi : zin (zors (fun t => zshl (g t) t) n) := zors_in _ hn.1
  generalize zors (fun t => zshl (g t) t) n = u at hb hi ⊢
  have hu : 0 ≤ u ∧ u < 256 := zB_of (n := 8) hi (by decide) (fun k k0 k1 => by
    cases e : zB u k with
    | false => rfl
    | true =>
      have := (hb k (by omega) (by omega)).mp ((zbit_B1 (by omega) (by omega)).mpr (by rw [Int.toNat_natCast]; exact e))
      omega)
  refine ⟨hu, ?_⟩
  rw [qbits_cnt hu, qCnt_bit, zsum_cut (n := n) hn.1 hn.2 (fun t t0 t1 => by
    rcases zbit_01 u t with z | z
    · exact z
    · have := (hb t (by omega) (by omega)).mp z
      omega)]
  refine zsum_congr (fun t t0 t1 => ?_)
  have h1 := hb t t0 (by omega)
  rcases zbit_01 u t with z | z <;> rcases hg t t0 t1 with y | y <;> omega
theorem qCarOf_cnt {M : Int → Int} (hI : zInv M) (s : Int) : (0 ≤ qCarOf M (qInSt M 0) s (M 4) ∧ qCarOf M (qInSt M 0) s (M 4) < 256) ∧ qbits (qCarOf M (qInSt M 0) s (M 4)) = qCarried M s := by
  have h4 := hI.m4
  unfold qCarOf qCarried
  refine qbits_zors h4 (fun t t0 t1 => ?_) (fun t t0 t1 => ?_)
  · have hw := qInSt_B hI 0 (i := t) ⟨t0, by omega⟩
    by_cases e : M (74 + 5 * t + 4) = 0 ∧ qGo M t s (M 6) = 1
    · rw [if_pos e, if_pos ⟨hw.mpr ⟨t1, e.1⟩, e.2⟩]
    · rw [if_neg e, if_neg (fun z => e ⟨(hw.mp z.1).2, z.2⟩), zshl_0i ⟨t0, by omega⟩]
  · split
    · exact Or.inr rfl
    · exact Or.inl rfl
theorem c_X11_worst {G : zG} {lay : zLay} {σ C0 : zMem} {nx x : Int} (hT : TopL lay x) {M : Int → Int} (hR : CoR lay x C0 σ (0 + 2) M) (hM : zOC M) : zMM G 8 KX11_worst [zP (x + 0)] lay (tC x σ C0) nx (0, 0) (zY' (some (zI (qMin (qCarried M) 0 2000000000 5).1)) (fun q C => zFc (0 + 2) σ C0 q C) lay nx x) := by
  refine z_met' (L := [zP (x + 0), zU, zU, zU, zU]) gX11_worst.1 rfl rfl (Nat.le_of_ble_eq_true rfl) rfl ?_
  have hA := TpAt
  have hx := hT.1
  have hne : x + 0 ≠ -1 := by omega
  have hD := isCo.now
  have hl : ∀ t : Int, 0 ≤ t → t ≤ 5 → ∀ (S C : zMem) (m : Int) (y : zAV), zFc (0 + 2) σ C0 S C → 0 ≤ m → m = (if (qMin (qCarried M) 0 2000000000 t).2 < 9 then (qMin (qCarried M) 0 2000000000 t).2 else 9) → zW G KX11_worst 8 (zY' (some (zI (qMin (qCarried M) 0 2000000000 5).1)) (fun q C => zFc (0 + 2) σ C0 q C) lay nx x) 7 [zP (x + 0), zI m, zI (qMin (qCarried M) 0 2000000000 t).1, zI t, y] [] lay (tC x S C) nx (0, 0) := by
    refine z_up 5 ?_ ?_
    · intro S C m y hS hm0 hm
      refine z_il3 eX11_worst_7 ?_
      refine z_iconst eX11_worst_8 ?_
      refine z_icmp_ge (tgt := 53) eX11_worst_9 rfl ⟨⟨by omega, by omega⟩, ⟨by omega, by omega⟩⟩ (fun h9 => ?_) (fun h9 => (by exfalso; omega))
      refine z_il2 eX11_worst_53 ?_
      refine z_ireturn eX11_worst_54 rfl ?_
      exact zYe hS rfl
    · intro t t0 t1 ih S C m y hS hm0 hm
      have hb := qCarried_bd hM.ol.1 t
      have hc := qCarOf_cnt hM.I t
      have hR1 := hR.fc hS
      rw [qMin_s _ _ _ t0] at ih
      generalize qMin (qCarried M) 0 2000000000 t = q at ih hm ⊢
      refine z_il3 eX11_worst_7 ?_
      refine z_iconst eX11_worst_8 ?_
      refine z_icmp_ge (tgt := 53) eX11_worst_9 rfl ⟨⟨by omega, by omega⟩, ⟨by omega, by omega⟩⟩ (fun h9 => (by exfalso; omega)) (fun h9 => ?_)
      refine z_al0 eX11_worst_12 hne ?_
      first | refine z_ta0 lX11_20 eX11_worst_13 rfl hT hA (by decide) rfl rfl ?_ | refine z_ta lX11_20 eX11_worst_13 rfl hT hA ⟨by decide, by decide⟩ rfl rfl ?_
      refine z_al0 eX11_worst_16 hne ?_
      first | refine z_ta0 lX11_20 eX11_worst_17 rfl hT hA (by decide) rfl rfl ?_ | refine z_ta lX11_20 eX11_worst_17 rfl hT hA ⟨by decide, by decide⟩ rfl rfl ?_
      first | refine z_ta0 lX11_154 eX11_worst_20 rfl hT hD (by decide) rfl rfl ?_ | refine z_ta lX11_154 eX11_worst_20 rfl hT hD ⟨by decide, by decide⟩ rfl rfl ?_
      refine z_iconst eX11_worst_23 ?_
      refine z_V1 eX11_worst_24 vX11_270 rfl rfl (Nat.le_of_ble_eq_true rfl) (Nat.le_of_ble_eq_true rfl) ((hD.mo).L0 hT (by decide)) (c_X6_inState hT hD.mo hR1.1.mo hM.I (by decide)) ?_
      refine z_il3 eX11_worst_27 ?_
      refine z_V2y eX11_worst_28 vX11_273 rfl rfl (Nat.le_of_ble_eq_true rfl) (Nat.le_of_ble_eq_true rfl) ((hD).L0 hT (by decide)) (c_X1_carriedOf hT hD hR1 hM ⟨t0, by omega⟩) (fun s28 C28 hs28 => ?_)
      refine z_S1 eX11_worst_31 vX11_276 rfl rfl (Nat.le_of_ble_eq_true rfl) (Nat.le_of_ble_eq_true rfl) (c_J6_bitCount_0f7a4 hc.1) ?_
      rw [hc.2]
      refine z_is4 eX11_worst_34 (Nat.ne_of_beq_eq_false rfl) ?_
      refine z_il4 eX11_worst_36 ?_
      refine z_il1 eX11_worst_38 ?_
      refine z_icmp_ge (tgt := 47) eX11_worst_39 rfl ⟨⟨by omega, by omega⟩, ⟨by omega, by omega⟩⟩ (fun h39 => ?_) (fun h39 => ?_)
      · refine z_ii3 eX11_worst_47 (Nat.ne_of_beq_eq_false rfl) ?_
        refine z_goto eX11_worst_50 (tgt := 7) rfl ?_
        first | (rw [if_pos (show qCarried M t < q.2 by omega)] at ih; exact ih _ _ _ _ (hS.trans hs28) hb.1 (if_pos (by dsimp only; omega)).symm) | (rw [if_neg (show ¬ qCarried M t < q.2 by omega)] at ih; exact ih _ _ _ _ (hS.trans hs28) hm0 hm) | fail
      · refine z_il4 eX11_worst_42 ?_
        refine z_is1 eX11_worst_44 (Nat.ne_of_beq_eq_false rfl) ?_
        refine z_il3 eX11_worst_45 ?_
        refine z_is2 eX11_worst_46 (Nat.ne_of_beq_eq_false rfl) ?_
        refine z_ii3 eX11_worst_47 (Nat.ne_of_beq_eq_false rfl) ?_
        refine z_goto eX11_worst_50 (tgt := 7) rfl ?_
        first | (rw [if_pos (show qCarried M t < q.2 by omega)] at ih; exact ih _ _ _ _ (hS.trans hs28) hb.1 (if_pos (by dsimp only; omega)).symm) | (rw [if_neg (show ¬ qCarried M t < q.2 by omega)] at ih; exact ih _ _ _ _ (hS.trans hs28) hm0 hm) | fail
  refine z_bipush eX11_worst_0 (by decide) ?_
  refine z_is1 eX11_worst_2 (Nat.ne_of_beq_eq_false rfl) ?_
  refine z_iconst eX11_worst_3 ?_
  refine z_is2 eX11_worst_4 (Nat.ne_of_beq_eq_false rfl) ?_
  refine z_iconst eX11_worst_5 ?_
  refine z_is3 eX11_worst_6 (Nat.ne_of_beq_eq_false rfl) ?_
  exact hl 0 (by decide) (by decide) _ _ _ _ (zFc.refl _ _ _) (by decide) rfl
theorem c_X11_foes {G : zG} {lay : zLay} {σ C0 : zMem} {nx x : Int} (hT : TopL lay x) {M : Int → Int} (hN : CoN σ (0 + 2) M) (hM : zOC M) : zMM G 4 KX11_foes [zP (x + 0)] lay (tC x σ C0) nx (0, 0) (zR (some (zI (qFoes M (M 3)).1)) lay (tC x (σ) (C0)) nx) := by
  refine z_met' (L := [zP (x + 0), zU, zU, zU, zU, zU]) gX11_foes.1 rfl rfl (Nat.le_of_ble_eq_true rfl) rfl ?_
  have hA := TpAt
  have hx := hT.1
  have hne : x + 0 ≠ -1 := by omega
  have hD := isCo.now
  have hm3 := hM.I.m3
  have hm4 := hM.I.m4
  have w7 : ∀ a : Int, 0 ≤ a → a ≤ M 3 → ∀ (m : Int) (y1 y2 : zAV), y1.1 ≠ 1 → 0 ≤ m → m = (if (qFoes M a).2 < 9 then (qFoes M a).2 else 9) → zW G KX11_foes 4 (zR (some (zI (qFoes M (M 3)).1)) lay (tC x σ C0) nx) 7 [zP (x + 0), zI m, zI (qFoes M a).1, zI a, y1, y2] [] lay (tC x σ C0) nx (0, 0) := by
    refine z_up (M 3) ?_ ?_
    · intro m y1 y2 hy hm0 hm
      refine z_il3 eX11_foes_7 ?_
      refine z_al0 eX11_foes_8 hne ?_
      first | refine z_ta0 lX11_20 eX11_foes_9 rfl hT hA (by decide) rfl rfl ?_ | refine z_ta lX11_20 eX11_foes_9 rfl hT hA ⟨by decide, by decide⟩ rfl rfl ?_
      first | refine z_tg0 (j := 1) lX11_321 eX11_foes_12 rfl hT hD (by decide) rfl rfl rfl ?_ | refine z_tg (j := 1) lX11_321 eX11_foes_12 rfl hT hD ⟨by decide, by decide⟩ rfl rfl rfl ?_
      rw [hN.n3]
      refine z_icmp_ge (tgt := 79) eX11_foes_15 rfl ⟨⟨by omega, by omega⟩, ⟨by omega, by omega⟩⟩ (fun h15 => ?_) (fun h15 => (by exfalso; omega))
      refine z_il2 eX11_foes_79 ?_
      refine z_ireturn eX11_foes_80 rfl ?_
      first | exact ⟨rfl, rfl, rfl, rfl⟩ | exact zRb1 (by omega) | exact zRb0 (by omega) | exact zRe (by omega)
    · intro a a0 a1 ih m y1 y2 hy hm0 hm
      have e : qFoes M (a + 1) = qFoeI M a (qFoes M a) (M 3 - (a + 1)) := by unfold qFoes; rw [zfold_s _ _ a0]
      rw [e] at ih
      generalize qFoes M a = r at ih hm ⊢
      have w23 : ∀ j : Int, 0 ≤ j → j ≤ M 3 - (a + 1) → ∀ (m : Int) (y2 : zAV), 0 ≤ m → m = (if (qFoeI M a r j).2 < 9 then (qFoeI M a r j).2 else 9) → zW G KX11_foes 4 (zR (some (zI (qFoes M (M 3)).1)) lay (tC x σ C0) nx) 23 [zP (x + 0), zI m, zI (qFoeI M a r j).1, zI a, zI (a + 1 + j), y2] [] lay (tC x σ C0) nx (0, 0) := by
        refine z_up (M 3 - (a + 1)) ?_ ?_
        · intro m y2 hm0 hm
          refine z_il4 eX11_foes_23 ?_
          refine z_al0 eX11_foes_25 hne ?_
          first | refine z_ta0 lX11_20 eX11_foes_26 rfl hT hA (by decide) rfl rfl ?_ | refine z_ta lX11_20 eX11_foes_26 rfl hT hA ⟨by decide, by decide⟩ rfl rfl ?_
          first | refine z_tg0 (j := 1) lX11_321 eX11_foes_29 rfl hT hD (by decide) rfl rfl rfl ?_ | refine z_tg (j := 1) lX11_321 eX11_foes_29 rfl hT hD ⟨by decide, by decide⟩ rfl rfl rfl ?_
          rw [hN.n3]
          refine z_icmp_ge (tgt := 73) eX11_foes_32 rfl ⟨⟨by omega, by omega⟩, ⟨by omega, by omega⟩⟩ (fun h32 => ?_) (fun h32 => (by exfalso; omega))
          refine z_ii3 eX11_foes_73 (Nat.ne_of_beq_eq_false rfl) ?_
          refine z_goto eX11_foes_76 (tgt := 7) rfl ?_
          exact ih _ _ _ (Nat.ne_of_beq_eq_false rfl) hm0 hm
        · intro j j0 j1 ih2 m y2 hm0 hm
          have hb := qLike_bd M a (a + 1 + j) hm4.1
          have e2 : qFoeI M a r (j + 1) = if qLike M a (a + 1 + j) (M 4) < (qFoeI M a r j).2 then (8 * a + (a + 1 + j), qLike M a (a + 1 + j) (M 4)) else qFoeI M a r j := by unfold qFoeI; rw [zfold_s _ _ j0]
          rw [e2] at ih2
          generalize qFoeI M a r j = q at ih2 hm ⊢
          refine z_il4 eX11_foes_23 ?_
          refine z_al0 eX11_foes_25 hne ?_
          first | refine z_ta0 lX11_20 eX11_foes_26 rfl hT hA (by decide) rfl rfl ?_ | refine z_ta lX11_20 eX11_foes_26 rfl hT hA ⟨by decide, by decide⟩ rfl rfl ?_
          first | refine z_tg0 (j := 1) lX11_321 eX11_foes_29 rfl hT hD (by decide) rfl rfl rfl ?_ | refine z_tg (j := 1) lX11_321 eX11_foes_29 rfl hT hD ⟨by decide, by decide⟩ rfl rfl rfl ?_
          rw [hN.n3]
          refine z_icmp_ge (tgt := 73) eX11_foes_32 rfl ⟨⟨by omega, by omega⟩, ⟨by omega, by omega⟩⟩ (fun h32 => (by exfalso; omega)) (fun h32 => ?_)
          refine z_al0 eX11_foes_35 hne ?_
          first | refine z_ta0 lX11_20 eX11_foes_36 rfl hT hA (by decide) rfl rfl ?_ | refine z_ta lX11_20 eX11_foes_36 rfl hT hA ⟨by decide, by decide⟩ rfl rfl ?_
          first | refine z_ta0 lX11_154 eX11_foes_39 rfl hT hD (by decide) rfl rfl ?_ | refine z_ta lX11_154 eX11_foes_39 rfl hT hD ⟨by decide, by decide⟩ rfl rfl ?_
          refine z_il3 eX11_foes_42 ?_
          refine z_il4 eX11_foes_43 ?_
          refine z_V2 eX11_foes_45 vX11_390 rfl rfl (Nat.le_of_ble_eq_true rfl) (Nat.le_of_ble_eq_true rfl) ((hD.mo).L0 hT (by decide)) (c_X6_sameMinds hT hD.mo hN.mo hM.I ⟨by omega, by omega⟩ ⟨by omega, by omega⟩) ?_
          refine z_is5 eX11_foes_48 (Nat.ne_of_beq_eq_false rfl) ?_
          refine z_il5 eX11_foes_50 ?_
          refine z_il1 eX11_foes_52 ?_
          refine z_icmp_ge (tgt := 67) eX11_foes_53 rfl ⟨⟨by omega, by omega⟩, ⟨by omega, by omega⟩⟩ (fun h53 => ?_) (fun h53 => ?_)
          · refine z_ii4 eX11_foes_67 (Nat.ne_of_beq_eq_false rfl) ?_
            refine z_goto eX11_foes_70 (tgt := 23) rfl ?_
            rw [show a + 1 + j + 1 = a + 1 + (j + 1) by omega]; first | (rw [if_pos (show qLike M a (a + 1 + j) (M 4) < q.2 by omega)] at ih2; exact ih2 _ _ hb.1 (if_pos (by dsimp only; omega)).symm) | (rw [if_neg (show ¬ qLike M a (a + 1 + j) (M 4) < q.2 by omega)] at ih2; exact ih2 _ _ hm0 hm) | fail
          · refine z_il5 eX11_foes_56 ?_
            refine z_is1 eX11_foes_58 (Nat.ne_of_beq_eq_false rfl) ?_
            refine z_bipush eX11_foes_59 (by decide) ?_
            refine z_il3 eX11_foes_61 ?_
            refine z_imul eX11_foes_62 ?_
            refine z_il4 eX11_foes_63 ?_
            refine z_iadd eX11_foes_65 ?_
            refine z_is2 eX11_foes_66 (Nat.ne_of_beq_eq_false rfl) ?_
            refine z_ii4 eX11_foes_67 (Nat.ne_of_beq_eq_false rfl) ?_
            refine z_goto eX11_foes_70 (tgt := 23) rfl ?_
            rw [show a + 1 + j + 1 = a + 1 + (j + 1) by omega]; first | (rw [if_pos (show qLike M a (a + 1 + j) (M 4) < q.2 by omega)] at ih2; exact ih2 _ _ hb.1 (if_pos (by dsimp only; omega)).symm) | (rw [if_neg (show ¬ qLike M a (a + 1 + j) (M 4) < q.2 by omega)] at ih2; exact ih2 _ _ hm0 hm) | fail
      have h0 := w23 0 (by decide) (by omega) m y2 hm0 hm
      rw [show qFoeI M a r 0 = r from rfl, Int.add_zero (a + 1)] at h0
      refine z_il3 eX11_foes_7 ?_
      refine z_al0 eX11_foes_8 hne ?_
      first | refine z_ta0 lX11_20 eX11_foes_9 rfl hT hA (by decide) rfl rfl ?_ | refine z_ta lX11_20 eX11_foes_9 rfl hT hA ⟨by decide, by decide⟩ rfl rfl ?_
      first | refine z_tg0 (j := 1) lX11_321 eX11_foes_12 rfl hT hD (by decide) rfl rfl rfl ?_ | refine z_tg (j := 1) lX11_321 eX11_foes_12 rfl hT hD ⟨by decide, by decide⟩ rfl rfl rfl ?_
      rw [hN.n3]
      refine z_icmp_ge (tgt := 79) eX11_foes_15 rfl ⟨⟨by omega, by omega⟩, ⟨by omega, by omega⟩⟩ (fun h15 => (by exfalso; omega)) (fun h15 => ?_)
      refine z_il3 eX11_foes_18 ?_
      refine z_iconst eX11_foes_19 ?_
      refine z_iadd eX11_foes_20 ?_
      refine z_is4 eX11_foes_21 (Nat.ne_of_beq_eq_false rfl) ?_
      exact h0
  refine z_bipush eX11_foes_0 (by decide) ?_
  refine z_is1 eX11_foes_2 (Nat.ne_of_beq_eq_false rfl) ?_
  refine z_iconst eX11_foes_3 ?_
  refine z_is2 eX11_foes_4 (Nat.ne_of_beq_eq_false rfl) ?_
  refine z_iconst eX11_foes_5 ?_
  refine z_is3 eX11_foes_6 (Nat.ne_of_beq_eq_false rfl) ?_
  exact w7 0 (by decide) hm3.1 _ _ _ (Nat.ne_of_beq_eq_false rfl) (by decide) rfl
theorem c_X11_soaked {G : zG} {lay : zLay} {σ C0 : zMem} {nx x : Int} (hT : TopL lay x) {M : Int → Int} (hR : CoR lay x C0 σ (0 + 2) M) (hM : zOC M) : zMM G 5 KX11_soaked [zP (x + 0)] lay (tC x σ C0) nx (0, 0) (zY' (some (zI (qSoaked M (M 3)))) (fun q C => zFc (0 + 2) σ C0 q C) lay nx x) := by
  refine z_met' (L := [zP (x + 0), zU, zU, zU]) gX11_soaked.1 rfl rfl (Nat.le_of_ble_eq_true rfl) rfl ?_
  have hA := TpAt
  have hx := hT.1
  have hne : x + 0 ≠ -1 := by omega
  have hD := isCo.now
  have hm3 := hM.I.m3
  have h5 := hM.I.s 5 rfl (by omega)
  have h6 := hM.I.s 6 rfl (by omega)
  have h9 := hM.I.s 9 rfl (by omega)
  have hl : ∀ p : Int, 0 ≤ p → p ≤ M 3 → ∀ (S C : zMem) (y : zAV), zFc (0 + 2) σ C0 S C → zW G KX11_soaked 5 (zY' (some (zI (qSoaked M (M 3)))) (fun q C => zFc (0 + 2) σ C0 q C) lay nx x) 4 [zP (x + 0), zI (qSoaked M p), zI p, y] [] lay (tC x S C) nx (0, 0) := by
    refine z_up (M 3) ?_ ?_
    · intro S C y hS
      have hR1 := hR.fc hS
      refine z_il2 eX11_soaked_4 ?_
      refine z_al0 eX11_soaked_5 hne ?_
      first | refine z_ta0 lX11_20 eX11_soaked_6 rfl hT hA (by decide) rfl rfl ?_ | refine z_ta lX11_20 eX11_soaked_6 rfl hT hA ⟨by decide, by decide⟩ rfl rfl ?_
      first | refine z_tg0 (j := 1) lX11_321 eX11_soaked_9 rfl hT hD (by decide) rfl rfl rfl ?_ | refine z_tg (j := 1) lX11_321 eX11_soaked_9 rfl hT hD ⟨by decide, by decide⟩ rfl rfl rfl ?_
      rw [hR1.1.n3]
      refine z_icmp_ge (tgt := 75) eX11_soaked_12 rfl ⟨⟨by omega, by omega⟩, ⟨by omega, by omega⟩⟩ (fun h12 => ?_) (fun h12 => (by exfalso; omega))
      refine z_il1 eX11_soaked_75 ?_
      refine z_ireturn eX11_soaked_76 rfl ?_
      exact zYe hS rfl
    · intro p p0 p1 ih S C y hS
      have hR1 := hR.fc hS
      have hb := qFelt_bd M p (M 5) (-1) (M 6)
      have e : qSoaked M (p + 1) = zor (qSoaked M p) (if M 9 ≤ qFelt M p (M 5) (-1) (M 6) then zshl 1 p else 0) := zors_s _ p0
      have e0 : zor (qSoaked M p) 0 = qSoaked M p := zB_ext (zor_in _ _) (zors_in _ p0) (fun k hk => by rw [zB_or, zB_0, Bool.or_false])
      rw [e] at ih
      refine z_il2 eX11_soaked_4 ?_
      refine z_al0 eX11_soaked_5 hne ?_
      first | refine z_ta0 lX11_20 eX11_soaked_6 rfl hT hA (by decide) rfl rfl ?_ | refine z_ta lX11_20 eX11_soaked_6 rfl hT hA ⟨by decide, by decide⟩ rfl rfl ?_
      first | refine z_tg0 (j := 1) lX11_321 eX11_soaked_9 rfl hT hD (by decide) rfl rfl rfl ?_ | refine z_tg (j := 1) lX11_321 eX11_soaked_9 rfl hT hD ⟨by decide, by decide⟩ rfl rfl rfl ?_
      rw [hR1.1.n3]
      refine z_icmp_ge (tgt := 75) eX11_soaked_12 rfl ⟨⟨by omega, by omega⟩, ⟨by omega, by omega⟩⟩ (fun h12 => (by exfalso; omega)) (fun h12 => ?_)
      refine z_al0 eX11_soaked_15 hne ?_
      first | refine z_ta0 lX11_20 eX11_soaked_16 rfl hT hA (by decide) rfl rfl ?_ | refine z_ta lX11_20 eX11_soaked_16 rfl hT hA ⟨by decide, by decide⟩ rfl rfl ?_
      refine z_il2 eX11_soaked_19 ?_
      refine z_al0 eX11_soaked_20 hne ?_
      first | refine z_ta0 lX11_20 eX11_soaked_21 rfl hT hA (by decide) rfl rfl ?_ | refine z_ta lX11_20 eX11_soaked_21 rfl hT hA ⟨by decide, by decide⟩ rfl rfl ?_
      first | refine z_ta0 lX11_194 eX11_soaked_24 rfl hT hD (by decide) rfl rfl ?_ | refine z_ta lX11_194 eX11_soaked_24 rfl hT hD ⟨by decide, by decide⟩ rfl rfl ?_
      first | refine z_tg0 (j := 0) lX11_399 eX11_soaked_27 rfl hT hD.we (by decide) rfl rfl rfl ?_ | refine z_tg (j := 0) lX11_399 eX11_soaked_27 rfl hT hD.we ⟨by decide, by decide⟩ rfl rfl rfl ?_
      rw [hR1.1.we.1.1]
      refine z_iconst eX11_soaked_30 ?_
      refine z_al0 eX11_soaked_31 hne ?_
      first | refine z_ta0 lX11_20 eX11_soaked_32 rfl hT hA (by decide) rfl rfl ?_ | refine z_ta lX11_20 eX11_soaked_32 rfl hT hA ⟨by decide, by decide⟩ rfl rfl ?_
      first | refine z_ta0 lX11_194 eX11_soaked_35 rfl hT hD (by decide) rfl rfl ?_ | refine z_ta lX11_194 eX11_soaked_35 rfl hT hD ⟨by decide, by decide⟩ rfl rfl ?_
      first | refine z_tg0 (j := 1) lX11_215 eX11_soaked_38 rfl hT hD.we (by decide) rfl rfl rfl ?_ | refine z_tg (j := 1) lX11_215 eX11_soaked_38 rfl hT hD.we ⟨by decide, by decide⟩ rfl rfl rfl ?_
      rw [hR1.1.we.1.2.1]
      refine z_al0 eX11_soaked_41 hne ?_
      first | refine z_ta0 lX11_20 eX11_soaked_42 rfl hT hA (by decide) rfl rfl ?_ | refine z_ta lX11_20 eX11_soaked_42 rfl hT hA ⟨by decide, by decide⟩ rfl rfl ?_
      first | refine z_tg0 (j := 5) lX11_147 eX11_soaked_45 rfl hT hD (by decide) rfl rfl rfl ?_ | refine z_tg (j := 5) lX11_147 eX11_soaked_45 rfl hT hD ⟨by decide, by decide⟩ rfl rfl rfl ?_
      rw [hR1.1.ou]
      refine z_V5y eX11_soaked_48 vX11_218 rfl rfl (Nat.le_of_ble_eq_true rfl) (Nat.le_of_ble_eq_true rfl) ((hD).L0 hT (by decide)) (c_X1_feels hT hD hR1.1 hR1.2 hM.ol ⟨p0, p1⟩ ⟨h5.1, by omega⟩ (Or.inl rfl) ⟨by omega, by omega⟩) (fun s48 C48 hs48 => ?_)
      rw [qFeltO_q hM.ol.1 ⟨p0, p1⟩]
      have hS2 := hS.trans hs48
      refine z_is3 eX11_soaked_51 (Nat.ne_of_beq_eq_false rfl) ?_
      refine z_il3 eX11_soaked_52 ?_
      refine z_al0 eX11_soaked_53 hne ?_
      first | refine z_ta0 lX11_20 eX11_soaked_54 rfl hT hA (by decide) rfl rfl ?_ | refine z_ta lX11_20 eX11_soaked_54 rfl hT hA ⟨by decide, by decide⟩ rfl rfl ?_
      first | refine z_tg0 (j := 8) lX11_374 eX11_soaked_57 rfl hT hD (by decide) rfl rfl rfl ?_ | refine z_tg (j := 8) lX11_374 eX11_soaked_57 rfl hT hD ⟨by decide, by decide⟩ rfl rfl rfl ?_
      rw [(hR.fc hS2).1.n9]
      refine z_icmp_lt (tgt := 69) eX11_soaked_60 rfl ⟨⟨by omega, by omega⟩, ⟨by omega, by omega⟩⟩ (fun h60 => ?_) (fun h60 => ?_)
      · refine z_ii2 eX11_soaked_69 (Nat.ne_of_beq_eq_false rfl) ?_
        refine z_goto eX11_soaked_72 (tgt := 4) rfl ?_
        first | (rw [if_pos (by omega)] at ih; exact ih _ _ _ hS2) | (rw [if_neg (by omega), e0] at ih; exact ih _ _ _ hS2) | fail
      · refine z_il1 eX11_soaked_63 ?_
        refine z_iconst eX11_soaked_64 ?_
        refine z_il2 eX11_soaked_65 ?_
        refine z_ishl eX11_soaked_66 ?_
        refine z_ior eX11_soaked_67 ?_
        refine z_is1 eX11_soaked_68 (Nat.ne_of_beq_eq_false rfl) ?_
        refine z_ii2 eX11_soaked_69 (Nat.ne_of_beq_eq_false rfl) ?_
        refine z_goto eX11_soaked_72 (tgt := 4) rfl ?_
        first | (rw [if_pos (by omega)] at ih; exact ih _ _ _ hS2) | (rw [if_neg (by omega), e0] at ih; exact ih _ _ _ hS2) | fail
  refine z_iconst eX11_soaked_0 ?_
  refine z_is1 eX11_soaked_1 (Nat.ne_of_beq_eq_false rfl) ?_
  refine z_iconst eX11_soaked_2 ?_
  refine z_is2 eX11_soaked_3 (Nat.ne_of_beq_eq_false rfl) ?_
  exact hl 0 (by decide) hm3.1 _ _ _ (zFc.refl _ _ _)
