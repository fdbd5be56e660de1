/-! Likes; dry weeks. -/
noncomputable def qLike (M : Int → Int) (p o n : Int) : Int := zsum (fun k => zbi (zbit (M (74 + 5 * k + 3)) p = 1 ↔ zbit (M (74 + 5 * k + 3)) o = 1)) n
theorem qLike_bd (M : Int → Int) (p o : Int) {n : Int} (hn : 0 ≤ n) : 0 ≤ qLike M p o n ∧ qLike M p o n ≤ 1 * n := zsum_bnd hn (fun t _ _ => by have := zbi_01 (zbit (M (74 + 5 * t + 3)) p = 1 ↔ zbit (M (74 + 5 * t + 3)) o = 1); omega)
theorem zbi_eq {p q : Prop} : zbi p = zbi q ↔ (p ↔ q) := by
  constructor
  · intro h
    exact ⟨fun a => zbi_1.mp (by rw [← h]; exact zbi_t a), fun a => zbi_1.mp (by rw [h]; exact zbi_t a)⟩
  · intro h; exact zbi_iff h
theorem m_X12_likeOf {G : zG} {lay : zLay} {σ C0 : zMem} {nx x : Int} {p o : Int} (hR : RefL lay x) (hm4 : 0 ≤ σ 1 4 ∧ σ 1 4 ≤ 8) : zMM G 2 KX12_likeOf [zP x, zI p, zI o] lay (rC x σ C0) nx (0, 0) (zR (some (zI (qLike (σ 1) p o (σ 1 4)))) lay (rC x (σ) C0) nx) := by
  refine z_met' (L := [zP x, zI p, zI o, zU, zU]) gX12_likeOf.1 rfl rfl (Nat.le_of_ble_eq_true rfl) rfl ?_
  have hl : ∀ t : Int, 0 ≤ t → t ≤ σ 1 4 → zW G KX12_likeOf 2 (zR (some (zI (qLike (σ 1) p o (σ 1 4)))) lay (rC x σ C0) nx) 5 [zP x, zI p, zI o, zI (qLike (σ 1) p o t), zI t] [] lay (rC x σ C0) nx (0, 0) := by
    refine z_up (σ 1 4) ?_ ?_
    · skip
      refine z_il4 eX12_likeOf_5 ?_
      refine z_al0 eX12_likeOf_7 hR.ne ?_
      refine z_ra lX12_7 eX12_likeOf_8 rfl hR rfl ?_
      refine z_iconst eX12_likeOf_11 ?_
      refine z_rl eX12_likeOf_12 hR (by decide) rfl rfl ⟨by omega, by omega⟩ ?_
      refine z_icmp_ge (tgt := 55) eX12_likeOf_13 rfl ⟨⟨by omega, by omega⟩, ⟨by omega, by omega⟩⟩ (fun h13 => ?_) (fun h13 => (by exfalso; omega))
      refine z_il3 eX12_likeOf_55 ?_
      refine z_ireturn eX12_likeOf_56 rfl ?_
      first | exact ⟨rfl, rfl, rfl, rfl⟩ | exact zRb1 (by omega) | exact zRb0 (by omega) | exact zRe (by omega)
    · intro t t0 t1 ih
      have e : qLike (σ 1) p o (t + 1) = qLike (σ 1) p o t + zbi (zbit (σ 1 (74 + 5 * t + 3)) p = 1 ↔ zbit (σ 1 (74 + 5 * t + 3)) o = 1) := zsum_s _ t0
      rw [e] at ih
      have z1 := zbi_01 (zbit (σ 1 (74 + 5 * t + 3)) p = 1)
      have z2 := zbi_01 (zbit (σ 1 (74 + 5 * t + 3)) o = 1)
      refine z_il4 eX12_likeOf_5 ?_
      refine z_al0 eX12_likeOf_7 hR.ne ?_
      refine z_ra lX12_7 eX12_likeOf_8 rfl hR rfl ?_
      refine z_iconst eX12_likeOf_11 ?_
      refine z_rl eX12_likeOf_12 hR (by decide) rfl rfl ⟨by omega, by omega⟩ ?_
      refine z_icmp_ge (tgt := 55) eX12_likeOf_13 rfl ⟨⟨by omega, by omega⟩, ⟨by omega, by omega⟩⟩ (fun h13 => (by exfalso; omega)) (fun h13 => ?_)
      refine z_il3 eX12_likeOf_16 ?_
      refine z_al0 eX12_likeOf_17 hR.ne ?_
      refine z_il4 eX12_likeOf_18 ?_
      refine z_iconst eX12_likeOf_20 ?_
      refine z_V2 eX12_likeOf_21 vX12_55 rfl rfl (Nat.le_of_ble_eq_true rfl) (Nat.le_of_ble_eq_true rfl) hR.x (m_X12_ofMotion hR ⟨by omega, by omega⟩ (by decide)) ?_
      refine z_il1 eX12_likeOf_24 ?_
      refine z_S2 eX12_likeOf_25 vX12_290 rfl rfl (Nat.le_of_ble_eq_true rfl) (Nat.le_of_ble_eq_true rfl) (m_X12_isOf ) ?_
      refine z_al0 eX12_likeOf_28 hR.ne ?_
      refine z_il4 eX12_likeOf_29 ?_
      refine z_iconst eX12_likeOf_31 ?_
      refine z_V2 eX12_likeOf_32 vX12_55 rfl rfl (Nat.le_of_ble_eq_true rfl) (Nat.le_of_ble_eq_true rfl) hR.x (m_X12_ofMotion hR ⟨by omega, by omega⟩ (by decide)) ?_
      refine z_il2 eX12_likeOf_35 ?_
      refine z_S2 eX12_likeOf_36 vX12_290 rfl rfl (Nat.le_of_ble_eq_true rfl) (Nat.le_of_ble_eq_true rfl) (m_X12_isOf ) ?_
      refine z_icmp_ne (tgt := 46) eX12_likeOf_39 rfl ⟨⟨by omega, by omega⟩, ⟨by omega, by omega⟩⟩ (fun h39 => ?_) (fun h39 => ?_)
      · refine z_iconst eX12_likeOf_46 ?_
        refine z_iadd eX12_likeOf_47 ?_
        refine z_is3 eX12_likeOf_48 (Nat.ne_of_beq_eq_false rfl) ?_
        refine z_ii4 eX12_likeOf_49 (Nat.ne_of_beq_eq_false rfl) ?_
        refine z_goto eX12_likeOf_52 (tgt := 5) rfl ?_
        first | (have e2 : ¬ zbi _ = zbi _ := h39; rw [zbi_f (mt zbi_eq.mpr e2)] at ih; exact ih) | (have e2 := h39; rw [zbi_t (zbi_eq.mp e2)] at ih; exact ih) | fail
      · refine z_iconst eX12_likeOf_42 ?_
        refine z_goto eX12_likeOf_43 (tgt := 47) rfl ?_
        refine z_iadd eX12_likeOf_47 ?_
        refine z_is3 eX12_likeOf_48 (Nat.ne_of_beq_eq_false rfl) ?_
        refine z_ii4 eX12_likeOf_49 (Nat.ne_of_beq_eq_false rfl) ?_
        refine z_goto eX12_likeOf_52 (tgt := 5) rfl ?_
        first | (have e2 : ¬ zbi _ = zbi _ := h39; rw [zbi_f (mt zbi_eq.mpr e2)] at ih; exact ih) | (have e2 := h39; rw [zbi_t (zbi_eq.mp e2)] at ih; exact ih) | fail
  refine z_iconst eX12_likeOf_0 ?_
  refine z_is3 eX12_likeOf_1 (Nat.ne_of_beq_eq_false rfl) ?_
  refine z_iconst eX12_likeOf_2 ?_
  refine z_is4 eX12_likeOf_3 (Nat.ne_of_beq_eq_false rfl) ?_
  exact hl 0 (by decide) hm4.1
theorem m_X12_like {G : zG} {lay : zLay} {σ C0 : zMem} {nx x : Int} {p o : Int} (hR : RefL lay x) (hM : zOK (σ 1)) (hp : zin p) (ho : zin o) : zMM G 3 KX12_like [zP x, zI p, zI o] lay (rC x σ C0) nx (0, 0) (zR (some (zI (if qThr2 ((0 ≤ p ∧ p < σ 1 3) ∧ 0 ≤ o ∧ o < σ 1 3) (p ≠ o) = 0 then qLike (σ 1) p o (σ 1 4) else 0))) lay (rC x (zset σ 0 0 (qThr2 ((0 ≤ p ∧ p < σ 1 3) ∧ 0 ≤ o ∧ o < σ 1 3) (p ≠ o))) C0) nx) := by
  refine z_met' (L := [zP x, zI p, zI o]) gX12_like.1 rfl rfl (Nat.le_of_ble_eq_true rfl) rfl ?_
  obtain ⟨p1, p2⟩ := hp
  obtain ⟨o1, o2⟩ := ho
  have hm3 := hM.1.m3
  have hm4 := hM.1.m4
  refine z_al0 eX12_like_0 hR.ne ?_
  refine z_al0 eX12_like_1 hR.ne ?_
  refine z_il1 eX12_like_2 ?_
  refine z_V1 eX12_like_3 vX12_317 rfl rfl (Nat.le_of_ble_eq_true rfl) (Nat.le_of_ble_eq_true rfl) hR.x (m_X12_isMember hR ⟨by omega, by omega⟩ hm3) ?_
  refine z_ifb_eq (tgt := 17) eX12_like_6 rfl (fun h6 => ?_) (fun h6 => ?_)
  · refine z_iconst eX12_like_17 ?_
    refine z_goto eX12_like_18 (tgt := 31) rfl ?_
    refine z_rp (j := 0) lX12_48 eX12_like_31 rfl hR rfl rfl ?_
    refine z_al0 eX12_like_34 hR.ne ?_
    refine z_rg (j := 0) lX12_48 eX12_like_35 rfl hR rfl rfl ?_
    rw [zset_eq]
    refine z_if_le (tgt := 45) eX12_like_38 rfl ⟨by omega, by omega⟩ (fun h38 => (by exfalso; omega)) (fun h38 => ?_)
    refine z_iconst eX12_like_41 ?_
    refine z_goto eX12_like_42 (tgt := 51) rfl ?_
    try rw [zset_001]
    refine z_ireturn eX12_like_51 rfl ?_
    first | (have e2 := h23; first | (rw [qThr2_0 (by omega) e2, if_pos rfl]; exact ⟨rfl, rfl, rfl, rfl⟩) | (rw [qThr2_2 (by omega) (fun z => z e2), if_neg (by decide)]; exact ⟨rfl, rfl, rfl, rfl⟩)) | (rw [qThr2_1 (by omega), if_neg (by decide)]; exact ⟨rfl, rfl, rfl, rfl⟩) | fail
  · refine z_al0 eX12_like_9 hR.ne ?_
    refine z_il2 eX12_like_10 ?_
    refine z_V1 eX12_like_11 vX12_317 rfl rfl (Nat.le_of_ble_eq_true rfl) (Nat.le_of_ble_eq_true rfl) hR.x (m_X12_isMember hR ⟨by omega, by omega⟩ hm3) ?_
    refine z_ifb_ne (tgt := 21) eX12_like_14 rfl (fun h14 => ?_) (fun h14 => ?_)
    · refine z_il1 eX12_like_21 ?_
      refine z_il2 eX12_like_22 ?_
      refine z_icmp_ne (tgt := 30) eX12_like_23 rfl ⟨⟨by omega, by omega⟩, ⟨by omega, by omega⟩⟩ (fun h23 => ?_) (fun h23 => ?_)
      · refine z_iconst eX12_like_30 ?_
        refine z_rp (j := 0) lX12_48 eX12_like_31 rfl hR rfl rfl ?_
        refine z_al0 eX12_like_34 hR.ne ?_
        refine z_rg (j := 0) lX12_48 eX12_like_35 rfl hR rfl rfl ?_
        rw [zset_eq]
        refine z_if_le (tgt := 45) eX12_like_38 rfl ⟨by omega, by omega⟩ (fun h38 => ?_) (fun h38 => (by exfalso; omega))
        refine z_al0 eX12_like_45 hR.ne ?_
        refine z_il1 eX12_like_46 ?_
        refine z_il2 eX12_like_47 ?_
        refine z_V2 eX12_like_48 vX12_434 rfl rfl (Nat.le_of_ble_eq_true rfl) (Nat.le_of_ble_eq_true rfl) hR.x (m_X12_likeOf hR (by rw [zset_001]; exact hm4)) ?_
        try rw [zset_001]
        refine z_ireturn eX12_like_51 rfl ?_
        first | (have e2 := h23; first | (rw [qThr2_0 (by omega) e2, if_pos rfl]; exact ⟨rfl, rfl, rfl, rfl⟩) | (rw [qThr2_2 (by omega) (fun z => z e2), if_neg (by decide)]; exact ⟨rfl, rfl, rfl, rfl⟩)) | (rw [qThr2_1 (by omega), if_neg (by decide)]; exact ⟨rfl, rfl, rfl, rfl⟩) | fail
      · refine z_iconst eX12_like_26 ?_
        refine z_goto eX12_like_27 (tgt := 31) rfl ?_
        refine z_rp (j := 0) lX12_48 eX12_like_31 rfl hR rfl rfl ?_
        refine z_al0 eX12_like_34 hR.ne ?_
        refine z_rg (j := 0) lX12_48 eX12_like_35 rfl hR rfl rfl ?_
        rw [zset_eq]
        refine z_if_le (tgt := 45) eX12_like_38 rfl ⟨by omega, by omega⟩ (fun h38 => (by exfalso; omega)) (fun h38 => ?_)
        refine z_iconst eX12_like_41 ?_
        refine z_goto eX12_like_42 (tgt := 51) rfl ?_
        try rw [zset_001]
        refine z_ireturn eX12_like_51 rfl ?_
        first | (have e2 := h23; first | (rw [qThr2_0 (by omega) e2, if_pos rfl]; exact ⟨rfl, rfl, rfl, rfl⟩) | (rw [qThr2_2 (by omega) (fun z => z e2), if_neg (by decide)]; exact ⟨rfl, rfl, rfl, rfl⟩)) | (rw [qThr2_1 (by omega), if_neg (by decide)]; exact ⟨rfl, rfl, rfl, rfl⟩) | fail
    · refine z_iconst eX12_like_17 ?_
      refine z_goto eX12_like_18 (tgt := 31) rfl ?_
      refine z_rp (j := 0) lX12_48 eX12_like_31 rfl hR rfl rfl ?_
      refine z_al0 eX12_like_34 hR.ne ?_
      refine z_rg (j := 0) lX12_48 eX12_like_35 rfl hR rfl rfl ?_
      rw [zset_eq]
      refine z_if_le (tgt := 45) eX12_like_38 rfl ⟨by omega, by omega⟩ (fun h38 => (by exfalso; omega)) (fun h38 => ?_)
      refine z_iconst eX12_like_41 ?_
      refine z_goto eX12_like_42 (tgt := 51) rfl ?_
      try rw [zset_001]
      refine z_ireturn eX12_like_51 rfl ?_
      first | (have e2 := h23; first | (rw [qThr2_0 (by omega) e2, if_pos rfl]; exact ⟨rfl, rfl, rfl, rfl⟩) | (rw [qThr2_2 (by omega) (fun z => z e2), if_neg (by decide)]; exact ⟨rfl, rfl, rfl, rfl⟩)) | (rw [qThr2_1 (by omega), if_neg (by decide)]; exact ⟨rfl, rfl, rfl, rfl⟩) | fail
noncomputable def qFoeI (M : Int → Int) (a : Int) (r : Int × Int) (n : Int) : Int × Int := zfold (fun j (r : Int × Int) => if qLike M a (a + 1 + j) (M 4) < r.2 then (8 * a + (a + 1 + j), qLike M a (a + 1 + j) (M 4)) else r) r n
noncomputable def qFoes (M : Int → Int) (n : Int) : Int × Int := zfold (fun a (r : Int × Int) => qFoeI M a r (M 3 - (a + 1))) (-1, 2000000000) n
theorem qFoeI_bd {M : Int → Int} (hM : zOK M) (a : Int) {r : Int × Int} (hr : 0 ≤ r.2 ∧ r.2 ≤ 2000000000) {n : Int} (hn : 0 ≤ n) : 0 ≤ (qFoeI M a r n).2 ∧ (qFoeI M a r n).2 ≤ 2000000000 := by
  have h4 := hM.1.m4
  unfold qFoeI
  exact zfold_P (f := fun j (r : Int × Int) => if qLike M a (a + 1 + j) (M 4) < r.2 then (8 * a + (a + 1 + j), qLike M a (a + 1 + j) (M 4)) else r) (P := fun _ (r : Int × Int) => 0 ≤ r.2 ∧ r.2 ≤ 2000000000) (s := r) hr (fun t r _ h => by
    have := qLike_bd M a (a + 1 + t) h4.1
    split
    · dsimp only; omega
    · exact h) n hn
theorem qFoes_bd {M : Int → Int} (hM : zOK M) {n : Int} (hn : 0 ≤ n ∧ n ≤ M 3) : 0 ≤ (qFoes M n).2 ∧ (qFoes M n).2 ≤ 2000000000 := by
  have : n ≤ M 3 → 0 ≤ (qFoes M n).2 ∧ (qFoes M n).2 ≤ 2000000000 := by
    unfold qFoes
    exact zfold_P (f := fun a (r : Int × Int) => qFoeI M a r (M 3 - (a + 1))) (P := fun n (r : Int × Int) => n ≤ M 3 → 0 ≤ r.2 ∧ r.2 ≤ 2000000000) (s := (-1, 2000000000)) (fun _ => ⟨by show (0 : Int) ≤ 2000000000; decide, by show (2000000000 : Int) ≤ 2000000000; decide⟩) (fun t r _ h h3 => qFoeI_bd hM t (h (by omega)) (by omega)) n hn.1
  exact this hn.2
theorem m_X12_foes {G : zG} {lay : zLay} {σ C0 : zMem} {nx x : Int} (hR : RefL lay x) (hM : zOK (σ 1)) : zMM G 3 KX12_foes [zP x] lay (rC x σ C0) nx (0, 0) (zR (some (zI (qFoes (σ 1) (σ 1 3)).1)) lay (rC x (zset σ 0 0 0) C0) nx) := by
  refine z_met' (L := [zP x, zU, zU, zU, zU]) gX12_foes.1 rfl rfl (Nat.le_of_ble_eq_true rfl) rfl ?_
  generalize hS : zset σ 0 0 0 = S
  have hS1 : S 1 = σ 1 := by rw [← hS]; exact zset_001
  have hm3 := hM.1.m3
  have hm4 := hM.1.m4
  have w13 : ∀ a : Int, 0 ≤ a → a ≤ σ 1 3 → ∀ y : zAV, zW G KX12_foes 3 (zR (some (zI (qFoes (σ 1) (σ 1 3)).1)) lay (rC x S C0) nx) 13 [zP x, zI (qFoes (σ 1) a).1, zI (qFoes (σ 1) a).2, zI a, y] [] lay (rC x S C0) nx (0, 0) := by
    refine z_up (σ 1 3) ?_ ?_
    · intro y
      refine z_il3 eX12_foes_13 ?_
      refine z_al0 eX12_foes_14 hR.ne ?_
      refine z_ra lX12_7 eX12_foes_15 rfl hR rfl ?_
      try rw [hS1]
      refine z_iconst eX12_foes_18 ?_
      refine z_rl eX12_foes_19 hR (by decide) rfl rfl ⟨by omega, by omega⟩ ?_
      try rw [hS1]
      refine z_icmp_ge (tgt := 81) eX12_foes_20 rfl ⟨⟨by omega, by omega⟩, ⟨by omega, by omega⟩⟩ (fun h20 => ?_) (fun h20 => (by exfalso; omega))
      refine z_il1 eX12_foes_81 ?_
      refine z_ireturn eX12_foes_82 rfl ?_
      first | exact ⟨rfl, rfl, rfl, rfl⟩ | exact zRb1 (by omega) | exact zRb0 (by omega) | exact zRe (by omega)
    · intro a a0 a1 ih y
      have hb := qFoes_bd hM (n := a) ⟨a0, by omega⟩
      have e : qFoes (σ 1) (a + 1) = qFoeI (σ 1) a (qFoes (σ 1) a) (σ 1 3 - (a + 1)) := by unfold qFoes; rw [zfold_s _ _ a0]
      rw [e] at ih
      generalize qFoes (σ 1) a = r at ih hb ⊢
      have w28 : ∀ j : Int, 0 ≤ j → j ≤ σ 1 3 - (a + 1) → zW G KX12_foes 3 (zR (some (zI (qFoes (σ 1) (σ 1 3)).1)) lay (rC x S C0) nx) 28 [zP x, zI (qFoeI (σ 1) a r j).1, zI (qFoeI (σ 1) a r j).2, zI a, zI (a + 1 + j)] [] lay (rC x S C0) nx (0, 0) := by
        refine z_up (σ 1 3 - (a + 1)) ?_ ?_
        · skip
          refine z_il4 eX12_foes_28 ?_
          refine z_al0 eX12_foes_30 hR.ne ?_
          refine z_ra lX12_7 eX12_foes_31 rfl hR rfl ?_
          try rw [hS1]
          refine z_iconst eX12_foes_34 ?_
          refine z_rl eX12_foes_35 hR (by decide) rfl rfl ⟨by omega, by omega⟩ ?_
          try rw [hS1]
          refine z_icmp_ge (tgt := 75) eX12_foes_36 rfl ⟨⟨by omega, by omega⟩, ⟨by omega, by omega⟩⟩ (fun h36 => ?_) (fun h36 => (by exfalso; omega))
          refine z_ii3 eX12_foes_75 (Nat.ne_of_beq_eq_false rfl) ?_
          refine z_goto eX12_foes_78 (tgt := 13) rfl ?_
          exact ih _
        · intro j j0 j1 ih2
          have hq := qFoeI_bd hM a hb (n := j) j0
          have hl := qLike_bd (σ 1) a (a + 1 + j) hm4.1
          have e2 : qFoeI (σ 1) a r (j + 1) = if qLike (σ 1) a (a + 1 + j) (σ 1 4) < (qFoeI (σ 1) a r j).2 then (8 * a + (a + 1 + j), qLike (σ 1) a (a + 1 + j) (σ 1 4)) else qFoeI (σ 1) a r j := by unfold qFoeI; rw [zfold_s _ _ j0]
          rw [e2] at ih2
          generalize qFoeI (σ 1) a r j = q at ih2 hq ⊢
          refine z_il4 eX12_foes_28 ?_
          refine z_al0 eX12_foes_30 hR.ne ?_
          refine z_ra lX12_7 eX12_foes_31 rfl hR rfl ?_
          try rw [hS1]
          refine z_iconst eX12_foes_34 ?_
          refine z_rl eX12_foes_35 hR (by decide) rfl rfl ⟨by omega, by omega⟩ ?_
          try rw [hS1]
          refine z_icmp_ge (tgt := 75) eX12_foes_36 rfl ⟨⟨by omega, by omega⟩, ⟨by omega, by omega⟩⟩ (fun h36 => (by exfalso; omega)) (fun h36 => ?_)
          refine z_al0 eX12_foes_39 hR.ne ?_
          refine z_il3 eX12_foes_40 ?_
          refine z_il4 eX12_foes_41 ?_
          refine z_V2 eX12_foes_43 vX12_434 rfl rfl (Nat.le_of_ble_eq_true rfl) (Nat.le_of_ble_eq_true rfl) hR.x (m_X12_likeOf hR (by rw [hS1]; exact hm4)) ?_
          try rw [hS1]
          refine z_il2 eX12_foes_46 ?_
          refine z_icmp_lt (tgt := 53) eX12_foes_47 rfl ⟨⟨by omega, by omega⟩, ⟨by omega, by omega⟩⟩ (fun h47 => ?_) (fun h47 => ?_)
          · refine z_al0 eX12_foes_53 hR.ne ?_
            refine z_il3 eX12_foes_54 ?_
            refine z_il4 eX12_foes_55 ?_
            refine z_V2 eX12_foes_57 vX12_434 rfl rfl (Nat.le_of_ble_eq_true rfl) (Nat.le_of_ble_eq_true rfl) hR.x (m_X12_likeOf hR (by rw [hS1]; exact hm4)) ?_
            try rw [hS1]
            refine z_is2 eX12_foes_60 (Nat.ne_of_beq_eq_false rfl) ?_
            refine z_bipush eX12_foes_61 (by decide) ?_
            refine z_il3 eX12_foes_63 ?_
            refine z_imul eX12_foes_64 ?_
            refine z_il4 eX12_foes_65 ?_
            refine z_iadd eX12_foes_67 ?_
            refine z_is1 eX12_foes_68 (Nat.ne_of_beq_eq_false rfl) ?_
            refine z_ii4 eX12_foes_69 (Nat.ne_of_beq_eq_false rfl) ?_
            refine z_goto eX12_foes_72 (tgt := 28) rfl ?_
            rw [show a + 1 + j + 1 = a + 1 + (j + 1) by omega]; first | (rw [if_pos (by omega)] at ih2; exact ih2) | (rw [if_neg (by omega)] at ih2; exact ih2) | fail
          · refine z_goto eX12_foes_50 (tgt := 69) rfl ?_
            refine z_ii4 eX12_foes_69 (Nat.ne_of_beq_eq_false rfl) ?_
            refine z_goto eX12_foes_72 (tgt := 28) rfl ?_
            rw [show a + 1 + j + 1 = a + 1 + (j + 1) by omega]; first | (rw [if_pos (by omega)] at ih2; exact ih2) | (rw [if_neg (by omega)] at ih2; exact ih2) | fail
      have h0 := w28 0 (by decide) (by omega)
      rw [Int.add_zero] at h0
      refine z_il3 eX12_foes_13 ?_
      refine z_al0 eX12_foes_14 hR.ne ?_
      refine z_ra lX12_7 eX12_foes_15 rfl hR rfl ?_
      try rw [hS1]
      refine z_iconst eX12_foes_18 ?_
      refine z_rl eX12_foes_19 hR (by decide) rfl rfl ⟨by omega, by omega⟩ ?_
      try rw [hS1]
      refine z_icmp_ge (tgt := 81) eX12_foes_20 rfl ⟨⟨by omega, by omega⟩, ⟨by omega, by omega⟩⟩ (fun h20 => (by exfalso; omega)) (fun h20 => ?_)
      refine z_il3 eX12_foes_23 ?_
      refine z_iconst eX12_foes_24 ?_
      refine z_iadd eX12_foes_25 ?_
      refine z_is4 eX12_foes_26 (Nat.ne_of_beq_eq_false rfl) ?_
      exact h0
  refine z_al0 eX12_foes_0 hR.ne ?_
  refine z_iconst eX12_foes_1 ?_
  refine z_rp (j := 0) lX12_48 eX12_foes_2 rfl hR rfl rfl ?_
  rw [hS]
  refine z_iconst eX12_foes_5 ?_
  refine z_is1 eX12_foes_6 (Nat.ne_of_beq_eq_false rfl) ?_
  refine z_ldcw eX12_foes_7 kX12_360 ?_
  refine z_is2 eX12_foes_10 (Nat.ne_of_beq_eq_false rfl) ?_
  refine z_iconst eX12_foes_11 ?_
  refine z_is3 eX12_foes_12 (Nat.ne_of_beq_eq_false rfl) ?_
  exact w13 0 (by decide) hm3.1 _
/-- chances of rows of skies without a drizzle -/
def qDryC (M : Int → Int) (n : Int) : Int → Int := zfold (fun _ c => zput (qGoC M c) 2 0) (qCh0 M) n
def qDry (M : Int → Int) (n : Int) : Int := qDryC M n 0 + qDryC M n 1 + qDryC M n 3 + qDryC M n 4
theorem qDryC_ok {M : Int → Int} (hM : zOK M) {n : Int} (hn : 0 ≤ n) : zCh (qDryC M n) := by
  unfold qDryC
  exact zfold_P (f := fun _ c => zput (qGoC M c) 2 0) (P := fun _ c => zCh c) (s := qCh0 M) (qCh0_ok hM) (fun _ c _ h => by
    have h1 := (qGoC_ok hM h).1
    refine ⟨fun s s0 s1 => by unfold zput; split; exact Int.le_refl 0; exact h1.1 s s0 s1, ?_⟩
    have h2 := h1.2
    have h3 := h1.1 2 (by decide) (by decide)
    rw [zsum_5] at h2 ⊢
    simp only [zput_at]
    simp
    omega) n hn
theorem qDry_bd {M : Int → Int} (hM : zOK M) {n : Int} (hn : 0 ≤ n) : 0 ≤ qDry M n ∧ qDry M n ≤ 10000 := by
  have h := qDryC_ok hM hn
  have h2 := h.2
  rw [zsum_5] at h2
  have a0 := h.1 0 (by decide) (by decide)
  have a1 := h.1 1 (by decide) (by decide)
  have a2 := h.1 2 (by decide) (by decide)
  have a3 := h.1 3 (by decide) (by decide)
  have a4 := h.1 4 (by decide) (by decide)
  unfold qDry
  omega
theorem m_X12_dryOf {G : zG} {lay : zLay} {σ C0 : zMem} {nx x : Int} {n : Int} (hR : RefL lay x) (hJ : zJs σ) (hM : zOK (σ 1)) (hn : 0 ≤ n ∧ n ≤ 12) : zMM G 4 KX12_dryOf [zP x, zI n] lay (rC x σ C0) nx (0, 0) (zX' (some (zI (qDry (σ 1) n))) (zScw σ) lay C0 nx x) := by
  refine z_met' (L := [zP x, zI n, zU]) gX12_dryOf.1 rfl rfl (Nat.le_of_ble_eq_true rfl) rfl ?_
  have hl : ∀ i : Int, 0 ≤ i → i ≤ n → ∀ S : zMem, zScw σ S → (∀ t, 0 ≤ t → t < 5 → S 7 t = qDryC (σ 1) i t) → zW G KX12_dryOf 4 (zX' (some (zI (qDry (σ 1) n))) (zScw σ) lay C0 nx x) 6 [zP x, zI n, zI i] [] lay (rC x S C0) nx (0, 0) := by
    refine z_up n ?_ ?_
    · intro S hS h7
      refine z_il2 eX12_dryOf_6 ?_
      refine z_il1 eX12_dryOf_7 ?_
      refine z_icmp_ge (tgt := 28) eX12_dryOf_8 rfl ⟨⟨by omega, by omega⟩, ⟨by omega, by omega⟩⟩ (fun h8 => ?_) (fun h8 => (by exfalso; omega))
      refine z_al0 eX12_dryOf_28 hR.ne ?_
      refine z_ra lX12_32 eX12_dryOf_29 rfl hR rfl ?_
      refine z_iconst eX12_dryOf_32 ?_
      refine z_rl eX12_dryOf_33 hR (by decide) rfl rfl ⟨by omega, by omega⟩ ?_
      rw [h7 0 (by decide) (by decide)]
      refine z_al0 eX12_dryOf_34 hR.ne ?_
      refine z_ra lX12_32 eX12_dryOf_35 rfl hR rfl ?_
      refine z_iconst eX12_dryOf_38 ?_
      refine z_rl eX12_dryOf_39 hR (by decide) rfl rfl ⟨by omega, by omega⟩ ?_
      rw [h7 1 (by decide) (by decide)]
      refine z_iadd eX12_dryOf_40 ?_
      refine z_al0 eX12_dryOf_41 hR.ne ?_
      refine z_ra lX12_32 eX12_dryOf_42 rfl hR rfl ?_
      refine z_iconst eX12_dryOf_45 ?_
      refine z_rl eX12_dryOf_46 hR (by decide) rfl rfl ⟨by omega, by omega⟩ ?_
      rw [h7 3 (by decide) (by decide)]
      refine z_iadd eX12_dryOf_47 ?_
      refine z_al0 eX12_dryOf_48 hR.ne ?_
      refine z_ra lX12_32 eX12_dryOf_49 rfl hR rfl ?_
      refine z_iconst eX12_dryOf_52 ?_
      refine z_rl eX12_dryOf_53 hR (by decide) rfl rfl ⟨by omega, by omega⟩ ?_
      rw [h7 4 (by decide) (by decide)]
      refine z_iadd eX12_dryOf_54 ?_
      refine z_ireturn eX12_dryOf_55 rfl ?_
      exact zXe hS rfl
    · intro i i0 i1 ih S hS h7
      have hc := (qDryC_ok hM i0).c h7
      have e : qDryC (σ 1) (i + 1) = zput (qGoC (σ 1) (qDryC (σ 1) i)) 2 0 := by unfold qDryC; rw [zfold_s _ _ i0]
      refine z_il2 eX12_dryOf_6 ?_
      refine z_il1 eX12_dryOf_7 ?_
      refine z_icmp_ge (tgt := 28) eX12_dryOf_8 rfl ⟨⟨by omega, by omega⟩, ⟨by omega, by omega⟩⟩ (fun h8 => (by exfalso; omega)) (fun h8 => ?_)
      refine z_al0 eX12_dryOf_11 hR.ne ?_
      refine z_V0vx eX12_dryOf_12 vX12_351 rfl rfl (Nat.le_of_ble_eq_true rfl) (Nat.le_of_ble_eq_true rfl) hR.x (m_X12_chancesGo hR hS.2.2 (by rw [hS.r1]; exact hM) hc) (fun s12 hs12 => ?_)
      refine z_al0 eX12_dryOf_15 hR.ne ?_
      refine z_ra lX12_32 eX12_dryOf_16 rfl hR rfl ?_
      refine z_iconst eX12_dryOf_19 ?_
      refine z_iconst eX12_dryOf_20 ?_
      refine z_rs eX12_dryOf_21 hR (by decide) rfl rfl ⟨by omega, by omega⟩ ?_
      refine z_ii2 eX12_dryOf_22 (Nat.ne_of_beq_eq_false rfl) ?_
      refine z_goto eX12_dryOf_25 (tgt := 6) rfl ?_
      refine ih _ ⟨fun j hj => by rw [zset_o (by decide)]; exact (hS.trans hs12.1).1 j hj, fun o o0 o6 => by rw [zset_o o6.2.1]; exact (hS.trans hs12.1).2.1 o o0 o6, hs12.1.2.2.set (by decide) (fun z => by omega)⟩ (fun t t0 t1 => ?_)
      rw [e, zset_at, zput_at]
      by_cases e2 : t = 2
      · rw [if_pos ⟨rfl, e2⟩, if_pos e2]
      · rw [if_neg (fun z => e2 z.2), if_neg e2, hs12.2 t t0 t1, hS.r1]; exact qGoC_c h7 t
  refine z_al0 eX12_dryOf_0 hR.ne ?_
  refine z_V0vx eX12_dryOf_1 vX12_348 rfl rfl (Nat.le_of_ble_eq_true rfl) (Nat.le_of_ble_eq_true rfl) hR.x (m_X12_chancesBegin hR hJ hM) (fun s1 hs1 => ?_)
  refine z_iconst eX12_dryOf_4 ?_
  refine z_is2 eX12_dryOf_5 (Nat.ne_of_beq_eq_false rfl) ?_
  exact hl 0 (by decide) hn.1 s1 hs1.1 hs1.2
theorem m_X12_dry {G : zG} {lay : zLay} {σ C0 : zMem} {nx x : Int} {n : Int} (hR : RefL lay x) (hJ : zJs σ) (hM : zOK (σ 1)) (hn : zin n) : zMM G 5 KX12_dry [zP x, zI n] lay (rC x σ C0) nx (0, 0) (zX' (some (zI (if 0 ≤ n ∧ n ≤ 12 then qDry (σ 1) n else 0))) (zScw (zset σ 0 0 (if 0 ≤ n ∧ n ≤ 12 then 0 else 1))) lay C0 nx x) := by
  refine z_met' (L := [zP x, zI n]) gX12_dry.1 rfl rfl (Nat.le_of_ble_eq_true rfl) rfl ?_
  obtain ⟨n1, n2⟩ := hn
  have hJ1 : ∀ v, zJs (zset σ 0 0 v) := fun v => hJ.set (by decide) (fun _ => Or.inl rfl)
  refine z_al0 eX12_dry_0 hR.ne ?_
  refine z_il1 eX12_dry_1 ?_
  refine z_iconst eX12_dry_2 ?_
  refine z_bipush eX12_dry_3 (by decide) ?_
  refine z_S3 eX12_dry_5 vX12_51 rfl rfl (Nat.le_of_ble_eq_true rfl) (Nat.le_of_ble_eq_true rfl) (m_X12_isIn (by refine ⟨?_, ?_, ?_⟩ <;> first | omega | decide | assumption)) ?_
  refine z_ifb_ne (tgt := 15) eX12_dry_8 rfl (fun h8 => ?_) (fun h8 => ?_)
  · refine z_iconst eX12_dry_15 ?_
    refine z_rp (j := 0) lX12_48 eX12_dry_16 rfl hR rfl rfl ?_
    refine z_al0 eX12_dry_19 hR.ne ?_
    refine z_rg (j := 0) lX12_48 eX12_dry_20 rfl hR rfl rfl ?_
    rw [zset_eq]
    refine z_if_le (tgt := 30) eX12_dry_23 rfl ⟨by omega, by omega⟩ (fun h23 => ?_) (fun h23 => (by exfalso; omega))
    refine z_al0 eX12_dry_30 hR.ne ?_
    refine z_il1 eX12_dry_31 ?_
    refine z_V1x eX12_dry_32 vX12_437 rfl rfl (Nat.le_of_ble_eq_true rfl) (Nat.le_of_ble_eq_true rfl) hR.x (m_X12_dryOf hR (hJ1 _) (by rw [zset_001]; exact hM) ⟨by omega, by omega⟩) (fun s32 hs32 => ?_)
    rw [zset_001]
    refine z_ireturn eX12_dry_35 rfl ?_
    first | (have e2 := hs32; rw [if_pos (by omega), if_pos (by omega)]; exact zXe e2 rfl) | (rw [if_neg (by omega), if_neg (by omega)]; exact zXe (zScw.refl (hJ1 _)) rfl) | fail
  · refine z_iconst eX12_dry_11 ?_
    refine z_goto eX12_dry_12 (tgt := 16) rfl ?_
    refine z_rp (j := 0) lX12_48 eX12_dry_16 rfl hR rfl rfl ?_
    refine z_al0 eX12_dry_19 hR.ne ?_
    refine z_rg (j := 0) lX12_48 eX12_dry_20 rfl hR rfl rfl ?_
    rw [zset_eq]
    refine z_if_le (tgt := 30) eX12_dry_23 rfl ⟨by omega, by omega⟩ (fun h23 => (by exfalso; omega)) (fun h23 => ?_)
    refine z_iconst eX12_dry_26 ?_
    refine z_goto eX12_dry_27 (tgt := 35) rfl ?_
    refine z_ireturn eX12_dry_35 rfl ?_
    first | (have e2 := hs32; rw [if_pos (by omega), if_pos (by omega)]; exact zXe e2 rfl) | (rw [if_neg (by omega), if_neg (by omega)]; exact zXe (zScw.refl (hJ1 _)) rfl) | fail
def qDrought (M : Int → Int) (n : Int) : Int := zfold (fun _ v => v * qDry M 12 / 10000) 10000 n
theorem qDrought_bd {M : Int → Int} (hM : zOK M) {n : Int} (hn : 0 ≤ n) : 0 ≤ qDrought M n ∧ qDrought M n ≤ 10000 := by
  have hd := qDry_bd hM (n := 12) (by decide)
  unfold qDrought
  exact zfold_P (f := fun _ v => v * qDry M 12 / 10000) (P := fun _ (v : Int) => 0 ≤ v ∧ v ≤ 10000) (s := 10000) ⟨by decide, by decide⟩ (fun _ v _ h => by
    have := zmul_bd h hd
    omega) n hn
theorem m_X12_drought {G : zG} {lay : zLay} {σ C0 : zMem} {nx x : Int} {n : Int} (hR : RefL lay x) (hJ : zJs σ) (hM : zOK (σ 1)) (hn : zin n) : zMM G 5 KX12_drought [zP x, zI n] lay (rC x σ C0) nx (0, 0) (zX' (some (zI (if 0 ≤ n ∧ n ≤ 12 then qDrought (σ 1) n else 0))) (zScw (zset σ 0 0 (if 0 ≤ n ∧ n ≤ 12 then 0 else 1))) lay C0 nx x) := by
  refine z_met' (L := [zP x, zI n, zU, zU]) gX12_drought.1 rfl rfl (Nat.le_of_ble_eq_true rfl) rfl ?_
  obtain ⟨n1, n2⟩ := hn
  have hJ1 : ∀ v, zJs (zset σ 0 0 v) := fun v => hJ.set (by decide) (fun _ => Or.inl rfl)
  have hd := qDry_bd hM (n := 12) (by decide)
  have w34 : (0 ≤ n ∧ n ≤ 12) → ∀ i : Int, 0 ≤ i → i ≤ n → ∀ S : zMem, zScw (zset σ 0 0 0) S → zW G KX12_drought 5 (zX' (some (zI (qDrought (σ 1) n))) (zScw (zset σ 0 0 0)) lay C0 nx x) 34 [zP x, zI n, zI (qDrought (σ 1) i), zI i] [] lay (rC x S C0) nx (0, 0) := by
    intro hnn
    refine z_up n ?_ ?_
    · intro S hSc
      refine z_il3 eX12_drought_34 ?_
      refine z_il1 eX12_drought_35 ?_
      refine z_icmp_ge (tgt := 58) eX12_drought_36 rfl ⟨⟨by omega, by omega⟩, ⟨by omega, by omega⟩⟩ (fun h36 => ?_) (fun h36 => (by exfalso; omega))
      refine z_il2 eX12_drought_58 ?_
      refine z_ireturn eX12_drought_59 rfl ?_
      exact zXe hSc rfl
    · intro i i0 i1 ih S hSc
      have hS1 : S 1 = σ 1 := by rw [hSc.r1, zset_001]
      have e : qDrought (σ 1) (i + 1) = qDrought (σ 1) i * qDry (σ 1) 12 / 10000 := by unfold qDrought; rw [zfold_s _ _ i0]
      have hb := qDrought_bd hM i0
      have hm := zmul_bd hb hd
      rw [e] at ih
      refine z_il3 eX12_drought_34 ?_
      refine z_il1 eX12_drought_35 ?_
      refine z_icmp_ge (tgt := 58) eX12_drought_36 rfl ⟨⟨by omega, by omega⟩, ⟨by omega, by omega⟩⟩ (fun h36 => (by exfalso; omega)) (fun h36 => ?_)
      refine z_il2 eX12_drought_39 ?_
      refine z_al0 eX12_drought_40 hR.ne ?_
      refine z_bipush eX12_drought_41 (by decide) ?_
      refine z_V1x eX12_drought_43 vX12_437 rfl rfl (Nat.le_of_ble_eq_true rfl) (Nat.le_of_ble_eq_true rfl) hR.x (m_X12_dryOf hR hSc.2.2 (by rw [hS1]; exact hM) ⟨by omega, by omega⟩) (fun s43 hs43 => ?_)
      rw [hS1]
      refine z_imul eX12_drought_46 ?_
      refine z_sipush eX12_drought_47 (by decide) ?_
      refine z_idiv eX12_drought_50 ⟨by omega, by omega, by omega, by omega⟩ ?_
      refine z_is2 eX12_drought_51 (Nat.ne_of_beq_eq_false rfl) ?_
      refine z_ii3 eX12_drought_52 (Nat.ne_of_beq_eq_false rfl) ?_
      refine z_goto eX12_drought_55 (tgt := 34) rfl ?_
      exact ih s43 (hSc.trans hs43)
  refine z_al0 eX12_drought_0 hR.ne ?_
  refine z_il1 eX12_drought_1 ?_
  refine z_iconst eX12_drought_2 ?_
  refine z_bipush eX12_drought_3 (by decide) ?_
  refine z_S3 eX12_drought_5 vX12_51 rfl rfl (Nat.le_of_ble_eq_true rfl) (Nat.le_of_ble_eq_true rfl) (m_X12_isIn (by refine ⟨?_, ?_, ?_⟩ <;> first | omega | decide | assumption)) ?_
  refine z_ifb_ne (tgt := 15) eX12_drought_8 rfl (fun h8 => ?_) (fun h8 => ?_)
  · refine z_iconst eX12_drought_15 ?_
    refine z_rp (j := 0) lX12_48 eX12_drought_16 rfl hR rfl rfl ?_
    refine z_al0 eX12_drought_19 hR.ne ?_
    refine z_rg (j := 0) lX12_48 eX12_drought_20 rfl hR rfl rfl ?_
    rw [zset_eq]
    refine z_if_le (tgt := 28) eX12_drought_23 rfl ⟨by omega, by omega⟩ (fun h23 => ?_) (fun h23 => (by exfalso; omega))
    refine z_sipush eX12_drought_28 (by decide) ?_
    refine z_is2 eX12_drought_31 (Nat.ne_of_beq_eq_false rfl) ?_
    refine z_iconst eX12_drought_32 ?_
    refine z_is3 eX12_drought_33 (Nat.ne_of_beq_eq_false rfl) ?_
    rw [if_pos (by omega), if_pos (by omega)]; exact w34 (by omega) 0 (by decide) (by omega) _ (zScw.refl (hJ1 _))
  · refine z_iconst eX12_drought_11 ?_
    refine z_goto eX12_drought_12 (tgt := 16) rfl ?_
    refine z_rp (j := 0) lX12_48 eX12_drought_16 rfl hR rfl rfl ?_
    refine z_al0 eX12_drought_19 hR.ne ?_
    refine z_rg (j := 0) lX12_48 eX12_drought_20 rfl hR rfl rfl ?_
    rw [zset_eq]
    refine z_if_le (tgt := 28) eX12_drought_23 rfl ⟨by omega, by omega⟩ (fun h23 => (by exfalso; omega)) (fun h23 => ?_)
    refine z_iconst eX12_drought_26 ?_
    refine z_ireturn eX12_drought_27 rfl ?_
    rw [if_neg (by omega), if_neg (by omega)]; exact zXe (zScw.refl (hJ1 _)) rfl
theorem m_X12_quorate {G : zG} {lay : zLay} {σ C0 : zMem} {nx x : Int} (hR : RefL lay x) (hM : zOK (σ 1)) : zMM G 3 KX12_quorate [zP x] lay (rC x σ C0) nx (0, 0) (zR (some (zI (zbi (σ 1 8 ≤ qbits (qOuts (σ 1)))))) lay (rC x (zset σ 0 0 0) C0) nx) := by
  refine z_met' (L := [zP x]) gX12_quorate.1 rfl rfl (Nat.le_of_ble_eq_true rfl) rfl ?_
  have hm3 := hM.1.m3
  have h8 := hM.1.s 8 rfl (by omega)
  have hb := qbits_bd (qOuts (σ 1))
  refine z_al0 eX12_quorate_0 hR.ne ?_
  refine z_iconst eX12_quorate_1 ?_
  refine z_rp (j := 0) lX12_48 eX12_quorate_2 rfl hR rfl rfl ?_
  refine z_al0 eX12_quorate_5 hR.ne ?_
  refine z_V0 eX12_quorate_6 vX12_280 rfl rfl (Nat.le_of_ble_eq_true rfl) (Nat.le_of_ble_eq_true rfl) hR.x (m_X12_outs hR (by rw [zset_001]; exact hm3)) ?_
  try rw [zset_001]
  refine z_S1 eX12_quorate_9 vX12_283 rfl rfl (Nat.le_of_ble_eq_true rfl) (Nat.le_of_ble_eq_true rfl) (m_X12_bits ) ?_
  try rw [zset_001]
  change zW _ _ _ _ _ _ (zI (qbits (qOuts (σ 1))) :: _) _ _ _ _
  refine z_al0 eX12_quorate_12 hR.ne ?_
  refine z_ra lX12_7 eX12_quorate_13 rfl hR rfl ?_
  try rw [zset_001]
  refine z_bipush eX12_quorate_16 (by decide) ?_
  refine z_rl eX12_quorate_18 hR (by decide) rfl rfl ⟨by omega, by omega⟩ ?_
  try rw [zset_001]
  refine z_icmp_lt (tgt := 26) eX12_quorate_19 rfl ⟨⟨by omega, by omega⟩, ⟨by omega, by omega⟩⟩ (fun h19 => ?_) (fun h19 => ?_)
  · refine z_iconst eX12_quorate_26 ?_
    refine z_zreturn eX12_quorate_27 rfl (by first | exact Or.inl rfl | exact Or.inr rfl | exact zbi_01 _ | assumption | omega) ?_
    first | exact zRb1 (by omega) | exact zRb0 (by omega)
  · refine z_iconst eX12_quorate_22 ?_
    refine z_goto eX12_quorate_23 (tgt := 27) rfl ?_
    refine z_zreturn eX12_quorate_27 rfl (by first | exact Or.inl rfl | exact Or.inr rfl | exact zbi_01 _ | assumption | omega) ?_
    first | exact zRb1 (by omega) | exact zRb0 (by omega)
theorem m_X12_enough {G : zG} {lay : zLay} {σ C0 : zMem} {nx x : Int} (hR : RefL lay x) (hJ : zJs σ) (hM : zOK (σ 1)) : zMM G 5 KX12_enough [zP x] lay (rC x σ C0) nx (0, 0) (zX' (some (zI (qFst (fun n => qDry (σ 1) n < 5000) 13 0))) (zScw (zset σ 0 0 0)) lay C0 nx x) := by
  refine z_met' (L := [zP x, zU]) gX12_enough.1 rfl rfl (Nat.le_of_ble_eq_true rfl) rfl ?_
  have hJ1 : ∀ v, zJs (zset σ 0 0 v) := fun v => hJ.set (by decide) (fun _ => Or.inl rfl)
  have hl : ∀ (m : Nat) (i : Int) (S : zMem) (r : Int), i + m = 13 → 0 ≤ i → zScw (zset σ 0 0 0) S → qFst (fun n => qDry (σ 1) n < 5000) m i = r → zW G KX12_enough 5 (zX' (some (zI r)) (zScw (zset σ 0 0 0)) lay C0 nx x) 7 [zP x, zI i] [] lay (rC x S C0) nx (0, 0) := by
    intro m
    induction m with
    | zero =>
      intro i S r hi h1 hSc hr
      refine z_il1 eX12_enough_7 ?_
      refine z_bipush eX12_enough_8 (by decide) ?_
      refine z_icmp_gt (tgt := 32) eX12_enough_10 rfl ⟨⟨by omega, by omega⟩, ⟨by omega, by omega⟩⟩ (fun h10 => ?_) (fun h10 => (by exfalso; omega))
      refine z_iconst eX12_enough_32 ?_
      refine z_ireturn eX12_enough_33 rfl ?_
      exact zXe hSc (by unfold qFst at hr; exact hr)
    | succ m ih =>
      intro i S r hi h1 hSc hr
      have hS1 : S 1 = σ 1 := by rw [hSc.r1, zset_001]
      have hd := qDry_bd hM (n := i) h1
      unfold qFst at hr
      refine z_il1 eX12_enough_7 ?_
      refine z_bipush eX12_enough_8 (by decide) ?_
      refine z_icmp_gt (tgt := 32) eX12_enough_10 rfl ⟨⟨by omega, by omega⟩, ⟨by omega, by omega⟩⟩ (fun h10 => (by exfalso; omega)) (fun h10 => ?_)
      refine z_al0 eX12_enough_13 hR.ne ?_
      refine z_il1 eX12_enough_14 ?_
      refine z_V1x eX12_enough_15 vX12_437 rfl rfl (Nat.le_of_ble_eq_true rfl) (Nat.le_of_ble_eq_true rfl) hR.x (m_X12_dryOf hR hSc.2.2 (by rw [hS1]; exact hM) ⟨by omega, by omega⟩) (fun s15 hs15 => ?_)
      rw [hS1]
      refine z_sipush eX12_enough_18 (by decide) ?_
      refine z_icmp_ge (tgt := 26) eX12_enough_21 rfl ⟨⟨by omega, by omega⟩, ⟨by omega, by omega⟩⟩ (fun h21 => ?_) (fun h21 => ?_)
      · refine z_ii1 eX12_enough_26 (Nat.ne_of_beq_eq_false rfl) ?_
        refine z_goto eX12_enough_29 (tgt := 7) rfl ?_
        rw [zif_f (by show ¬ qDry (σ 1) i < 5000; omega)] at hr; exact ih (i + 1) s15 r (by omega) (by omega) (hSc.trans hs15) hr
      · refine z_il1 eX12_enough_24 ?_
        refine z_ireturn eX12_enough_25 rfl ?_
        rw [zif_t (by show qDry (σ 1) i < 5000; omega)] at hr; exact zXe (hSc.trans hs15) hr
  refine z_al0 eX12_enough_0 hR.ne ?_
  refine z_iconst eX12_enough_1 ?_
  refine z_rp (j := 0) lX12_48 eX12_enough_2 rfl hR rfl rfl ?_
  refine z_iconst eX12_enough_5 ?_
  refine z_is1 eX12_enough_6 (Nat.ne_of_beq_eq_false rfl) ?_
  exact hl 13 0 _ _ (by decide) (by decide) (zScw.refl (hJ1 0)) rfl
