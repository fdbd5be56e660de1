/-! What cuffs tell. -/
theorem zcmp_le {u v : Int} : zcmp u v ≤ 0 ↔ u ≤ v := by unfold zcmp; (repeat' split) <;> omega
theorem zcmp_eq {u v : Int} : zcmp u v = 0 ↔ u = v := by unfold zcmp; (repeat' split) <;> omega
theorem zcmp_in (u v : Int) : zin (zcmp u v) := by unfold zcmp; (repeat' split) <;> decide
theorem zors_congr {f g : Int → Int} {n : Int} (h : ∀ t, 0 ≤ t → t < n → f t = g t) : zors f n = zors g n := by
  unfold zors
  have : ∀ m : Nat, (m : Int) ≤ n ∨ m = 0 → zorN f m = zorN g m := by
    intro m
    induction m with
    | zero => intro _; rfl
    | succ m ih =>
      intro hm
      show zor (zorN f m) (f m) = zor (zorN g m) (g m)
      rw [ih (by omega), h m (by omega) (by omega)]
  exact this n.toNat (by omega)
def qSkies (W : Int → Int) : Int := zors (fun t => if 0 < W t then zshl 1 t else 0) 5
theorem m_X12_skiesNow {G : zG} {lay : zLay} {σ C0 : zMem} {nx x : Int} (hR : RefL lay x) (hb : ∀ t, 0 ≤ t → t < 5 → zin8 (σ 9 t)) : zMM G 1 KX12_skiesNow [zP x] lay (rC x σ C0) nx (0, 0) (zR (some (zI (qSkies (σ 9)))) lay (rC x (σ) C0) nx) := by
  refine z_met' (L := [zP x, zU, zU]) gX12_skiesNow.1 rfl rfl (Nat.le_of_ble_eq_true rfl) rfl ?_
  have h00 : zin8 0 := by decide
  unfold qSkies
  have hl : ∀ t : Int, 0 ≤ t → t ≤ 5 → zW G KX12_skiesNow 1 (zR (some (zI (qSkies (σ 9)))) lay (rC x (σ) C0) nx) 4 [zP x, zI (zors (fun t => if 0 < σ 9 t then zshl 1 t else 0) t), zI t] [] lay (rC x (σ) C0) nx (0, 0) := by
    refine z_up (5) ?_ ?_
    · refine z_il2 eX12_skiesNow_4 ?_
      refine z_iconst eX12_skiesNow_5 ?_
      refine z_icmp_ge (tgt := 36) eX12_skiesNow_6 rfl ⟨⟨by omega, by omega⟩, ⟨by omega, by omega⟩⟩ (fun h6 => ?_) (fun h6 => (by exfalso; omega))
      refine z_il1 eX12_skiesNow_36 ?_
      refine z_ireturn eX12_skiesNow_37 rfl ?_
      first | exact ⟨rfl, rfl, rfl, rfl⟩ | exact zRb1 (by omega) | exact zRb0 (by omega) | exact zRe (by omega)
    · intro t h0 h1 ih
      refine z_il2 eX12_skiesNow_4 ?_
      refine z_iconst eX12_skiesNow_5 ?_
      refine z_icmp_ge (tgt := 36) eX12_skiesNow_6 rfl ⟨⟨by omega, by omega⟩, ⟨by omega, by omega⟩⟩ (fun h6 => (by exfalso; omega)) (fun h6 => ?_)
      refine z_il1 eX12_skiesNow_9 ?_
      refine z_al0 eX12_skiesNow_10 hR.ne ?_
      refine z_ra lX12_38 eX12_skiesNow_11 rfl hR rfl ?_
      refine z_il2 eX12_skiesNow_14 ?_
      refine z_rlJ eX12_skiesNow_15 hR (by decide) rfl rfl ⟨by omega, by omega⟩ ?_
      refine z_lconst0 eX12_skiesNow_16 ?_
      refine z_lcmp eX12_skiesNow_17 ⟨hb t (by omega) (by omega), h00⟩ ?_
      refine z_if_le (tgt := 27) eX12_skiesNow_18 rfl (zcmp_in _ _) (fun h18 => ?_) (fun h18 => ?_)
      · refine z_iconst eX12_skiesNow_27 ?_
        refine z_ior eX12_skiesNow_28 ?_
        refine z_is1 eX12_skiesNow_29 (Nat.ne_of_beq_eq_false rfl) ?_
        refine z_ii2 eX12_skiesNow_30 (Nat.ne_of_beq_eq_false rfl) ?_
        refine z_goto eX12_skiesNow_33 (tgt := 4) rfl ?_
        first | (have e := zcmp_le.mp h18; rw [zors_s _ h0, if_neg (by omega)] at ih; exact ih) | (have e : ¬ σ 9 t ≤ 0 := fun z => h18 (zcmp_le.mpr z); rw [zors_s _ h0, if_pos (by omega)] at ih; exact ih) | fail
      · refine z_iconst eX12_skiesNow_21 ?_
        refine z_il2 eX12_skiesNow_22 ?_
        refine z_ishl eX12_skiesNow_23 ?_
        refine z_goto eX12_skiesNow_24 (tgt := 28) rfl ?_
        refine z_ior eX12_skiesNow_28 ?_
        refine z_is1 eX12_skiesNow_29 (Nat.ne_of_beq_eq_false rfl) ?_
        refine z_ii2 eX12_skiesNow_30 (Nat.ne_of_beq_eq_false rfl) ?_
        refine z_goto eX12_skiesNow_33 (tgt := 4) rfl ?_
        first | (have e := zcmp_le.mp h18; rw [zors_s _ h0, if_neg (by omega)] at ih; exact ih) | (have e : ¬ σ 9 t ≤ 0 := fun z => h18 (zcmp_le.mpr z); rw [zors_s _ h0, if_pos (by omega)] at ih; exact ih) | fail
  refine z_iconst eX12_skiesNow_0 ?_
  refine z_is1 eX12_skiesNow_1 (Nat.ne_of_beq_eq_false rfl) ?_
  refine z_iconst eX12_skiesNow_2 ?_
  refine z_is2 eX12_skiesNow_3 (Nat.ne_of_beq_eq_false rfl) ?_
  exact hl 0 (by omega) (by omega)
/-- the ways by what the tape tells -/
noncomputable def qWays (σ : zMem) (c : Int) : Int → Int := qWay (σ 5) (σ 1) (σ 0 8) c 11
theorem qWays_bd (σ : zMem) (c t : Int) : 0 ≤ qWays σ c t ∧ qWays σ c t ≤ 48828125 := by
  have := qWay_bd (σ 5) (σ 1) (σ 0 8) c 11 t
  rw [show ((5 ^ 11 : Nat) : Int) = 48828125 by decide] at this
  exact this
theorem m_X12_heard {G : zG} {lay : zLay} {σ C0 : zMem} {nx x : Int} (hR : RefL lay x) (hS : TxS lay C0) (hJ : zJs σ) (hM : zOL (σ 1)) (hT : zTape σ) : zMM G 70 KX12_heard [zP x] lay (rC x σ C0) nx (0, 0) (zX' (some (zI (zbi (qCuffs (σ 5) (σ 1) (σ 0 8))))) (fun q => zScx (zset σ 0 8 0) q ∧ (qCuffs (σ 5) (σ 1) (σ 0 8) → ∀ t, 0 ≤ t → t < 5 → q 9 t = qWays σ (-1) t)) lay C0 nx x) := by
  refine z_met' (L := [zP x, zU]) gX12_heard.1 rfl rfl (Nat.le_of_ble_eq_true rfl) rfl ?_
  have h8 := hT.1
  have hm3 := hM.1.1.m3
  have e1 : ∀ o, o ≠ 0 → zset σ 0 8 0 o = σ o := fun o ho => zset_o ho
  have hJ1 : zJs (zset σ 0 8 0) := hJ.set (by decide) (fun _ => by unfold zNs; omega)
  have hT2 : ∀ k, 0 ≤ k → k < 400 → 0 ≤ zset σ 0 8 0 5 k ∧ zset σ 0 8 0 5 k ≤ 255 := by rw [e1 5 (by decide)]; exact hT.2
  refine z_al0 eX12_heard_0 hR.ne ?_
  refine z_rg (j := 8) lX12_65 eX12_heard_1 rfl hR rfl rfl ?_
  refine z_is1 eX12_heard_4 (Nat.ne_of_beq_eq_false rfl) ?_
  refine z_al0 eX12_heard_5 hR.ne ?_
  refine z_iconst eX12_heard_6 ?_
  refine z_rp (j := 8) lX12_65 eX12_heard_7 rfl hR rfl rfl ?_
  refine z_al0 eX12_heard_10 hR.ne ?_
  refine z_il1 eX12_heard_11 ?_
  refine z_V1 eX12_heard_12 vX12_382 rfl rfl (Nat.le_of_ble_eq_true rfl) (Nat.le_of_ble_eq_true rfl) hR.x (m_X12_areCuffs hR ⟨by omega, by omega⟩ hT2 (by rw [e1 1 (by decide)]; exact hm3)) ?_
  rw [e1 5 (by decide), e1 1 (by decide)]
  refine z_ifb_ne (tgt := 20) eX12_heard_15 rfl (fun h15 => ?_) (fun h15 => ?_)
  · refine z_al0 eX12_heard_20 hR.ne ?_
    refine z_il1 eX12_heard_21 ?_
    refine z_iconst eX12_heard_22 ?_
    refine z_V2vx eX12_heard_23 vX12_385 rfl rfl (Nat.le_of_ble_eq_true rfl) (Nat.le_of_ble_eq_true rfl) hR.x (m_X12_rows hR hS hJ1 (by rw [e1 1 (by decide)]; exact hM) hT2 (by omega) (by rw [e1 5 (by decide), e1 1 (by decide)]; exact h15) ⟨by omega, by omega⟩) (fun s23 hs23 => ?_)
    rw [e1 5 (by decide), e1 1 (by decide)] at hs23
    refine z_iconst eX12_heard_26 ?_
    refine z_zreturn eX12_heard_27 rfl (by first | exact Or.inl rfl | exact Or.inr rfl | exact zbi_01 _ | assumption | omega) ?_
    exact zXe ⟨hs23.1, fun _ => hs23.2⟩ (zbi_t h15).symm
  · refine z_iconst eX12_heard_18 ?_
    refine z_zreturn eX12_heard_19 rfl (by first | exact Or.inl rfl | exact Or.inr rfl | exact zbi_01 _ | assumption | omega) ?_
    exact zXe ⟨zScx.refl hJ1, fun z => absurd z h15⟩ (zbi_f h15).symm
/-- the numbers behind: the tape empty, what was thrown -/
def qHrd (σ : zMem) (v : Int) : zMem := zset (zset σ 0 8 0) 0 0 v
theorem qSkies_c {W W' : Int → Int} (h : ∀ t, 0 ≤ t → t < 5 → W t = W' t) : qSkies W = qSkies W' := zors_congr (fun t t0 t1 => by rw [h t t0 t1])
noncomputable def qCuffsV (σ : zMem) (w : Int) : Int := if w = 0 then qSkies (qWays σ (-1)) else if 9999 < zsum (qWays σ (-1)) 5 then 9999 else zsum (qWays σ (-1)) 5
theorem m_X12_cuffs {G : zG} {lay : zLay} {σ C0 : zMem} {nx x : Int} {w : Int} (hR : RefL lay x) (hS : TxS lay C0) (hJ : zJs σ) (hM : zOL (σ 1)) (hT : zTape σ) (hw : w = 0 ∨ w = 1) : zMM G 71 KX12_cuffs [zP x, zI w] lay (rC x σ C0) nx (0, 0) (zX' (some (zI (zif (qCuffs (σ 5) (σ 1) (σ 0 8)) (qCuffsV σ w) 0))) (zScx (qHrd σ (qThr1 (qCuffs (σ 5) (σ 1) (σ 0 8))))) lay C0 nx x) := by
  refine z_met' (L := [zP x, zI w]) gX12_cuffs.1 rfl rfl (Nat.le_of_ble_eq_true rfl) rfl ?_
  by_cases hC : qCuffs (σ 5) (σ 1) (σ 0 8)
  · rw [zif_t hC, qThr1_t hC]
    have hwb := qWays_bd σ (-1)
    have hsb := zsum_bnd (f := qWays σ (-1)) (c := 48828125) (n := 5) (by decide) (fun t _ _ => hwb t)
    unfold qCuffsV qHrd
    refine z_al0 eX12_cuffs_0 hR.ne ?_
    refine z_al0 eX12_cuffs_1 hR.ne ?_
    refine z_V0x eX12_cuffs_2 vX12_389 rfl rfl (Nat.le_of_ble_eq_true rfl) (Nat.le_of_ble_eq_true rfl) hR.x (m_X12_heard hR hS hJ hM hT) (fun s2 hs2 => ?_)
    obtain ⟨hs2, h9⟩ := hs2
    have h9 := h9 hC
    refine z_ifb_eq (tgt := 12) eX12_cuffs_5 rfl (fun h5 => absurd hC h5) (fun h5 => ?_)
    refine z_iconst eX12_cuffs_8 ?_
    refine z_goto eX12_cuffs_9 (tgt := 13) rfl ?_
    refine z_rp (j := 0) lX12_48 eX12_cuffs_13 rfl hR rfl rfl ?_
    refine z_al0 eX12_cuffs_16 hR.ne ?_
    refine z_rg (j := 0) lX12_48 eX12_cuffs_17 rfl hR rfl rfl ?_
    try rw [hs2.n0]
    rw [zset_eq]
    refine z_if_le (tgt := 25) eX12_cuffs_20 rfl ⟨by omega, by omega⟩ (fun h20 => ?_) (fun h20 => (by exfalso; omega))
    have h99 : ∀ t, 0 ≤ t → t < 5 → zset s2 0 0 0 9 t = qWays σ (-1) t := (fun t t0 t1 => by rw [zset_o (by decide)]; exact h9 t t0 t1)
    have hb9 : ∀ t, 0 ≤ t → t < 5 → zin8 (zset s2 0 0 0 9 t) := (fun t t0 t1 => by rw [h99 t t0 t1]; have := hwb t; exact ⟨by omega, by omega⟩)
    have hz := zsum_congr (f := fun t => zset s2 0 0 0 9 t) (g := qWays σ (-1)) (n := 5) h99
    refine z_il1 eX12_cuffs_25 ?_
    refine z_if_ne (tgt := 34) eX12_cuffs_26 rfl ⟨by omega, by omega⟩ (fun h26 => ?_) (fun h26 => ?_)
    · refine z_al0 eX12_cuffs_34 hR.ne ?_
      refine z_V0 eX12_cuffs_35 vX12_395 rfl rfl (Nat.le_of_ble_eq_true rfl) (Nat.le_of_ble_eq_true rfl) hR.x (m_X12_waysOfAll hR) ?_
      try rw [hs2.r1]
      rw [hz]
      refine z_ldc2 eX12_cuffs_38 kX12_399 ?_
      refine z_lcmp eX12_cuffs_41 ⟨⟨by omega, by omega⟩, ⟨by omega, by omega⟩⟩ ?_
      refine z_if_le (tgt := 51) eX12_cuffs_42 rfl (zcmp_in _ _) (fun h42 => ?_) (fun h42 => ?_)
      · have e42 := zcmp_le.mp h42
        refine z_al0 eX12_cuffs_51 hR.ne ?_
        refine z_V0 eX12_cuffs_52 vX12_395 rfl rfl (Nat.le_of_ble_eq_true rfl) (Nat.le_of_ble_eq_true rfl) hR.x (m_X12_waysOfAll hR) ?_
        try rw [hs2.r1]
        rw [hz]
        refine z_l2i eX12_cuffs_55 ⟨by omega, by omega⟩ ?_
        refine z_ireturn eX12_cuffs_56 rfl ?_
        first | (rw [if_neg h26, if_pos (by omega)]; exact zXe (hs2.set (by decide) (fun _ => Or.inl rfl)) rfl) | (rw [if_neg h26, if_neg (by omega)]; exact zXe (hs2.set (by decide) (fun _ => Or.inl rfl)) rfl)
      · have e42 : ¬ zsum (qWays σ (-1)) 5 ≤ 9999 := fun z => h42 (zcmp_le.mpr z)
        refine z_sipush eX12_cuffs_45 (by decide) ?_
        refine z_goto eX12_cuffs_48 (tgt := 56) rfl ?_
        refine z_ireturn eX12_cuffs_56 rfl ?_
        first | (rw [if_neg h26, if_pos (by omega)]; exact zXe (hs2.set (by decide) (fun _ => Or.inl rfl)) rfl) | (rw [if_neg h26, if_neg (by omega)]; exact zXe (hs2.set (by decide) (fun _ => Or.inl rfl)) rfl)
    · refine z_al0 eX12_cuffs_29 hR.ne ?_
      refine z_V0 eX12_cuffs_30 vX12_392 rfl rfl (Nat.le_of_ble_eq_true rfl) (Nat.le_of_ble_eq_true rfl) hR.x (m_X12_skiesNow hR hb9) ?_
      try rw [hs2.r1]
      refine z_ireturn eX12_cuffs_33 rfl ?_
      rw [if_pos h26]; exact zXe (hs2.set (by decide) (fun _ => Or.inl rfl)) (qSkies_c h99)
  · rw [zif_f hC, qThr1_f hC]
    unfold qHrd
    refine z_al0 eX12_cuffs_0 hR.ne ?_
    refine z_al0 eX12_cuffs_1 hR.ne ?_
    refine z_V0x eX12_cuffs_2 vX12_389 rfl rfl (Nat.le_of_ble_eq_true rfl) (Nat.le_of_ble_eq_true rfl) hR.x (m_X12_heard hR hS hJ hM hT) (fun s2 hs2 => ?_)
    obtain ⟨hs2, h9⟩ := hs2
    refine z_ifb_eq (tgt := 12) eX12_cuffs_5 rfl (fun h5 => ?_) (fun h5 => absurd h5 hC)
    refine z_iconst eX12_cuffs_12 ?_
    refine z_rp (j := 0) lX12_48 eX12_cuffs_13 rfl hR rfl rfl ?_
    refine z_al0 eX12_cuffs_16 hR.ne ?_
    refine z_rg (j := 0) lX12_48 eX12_cuffs_17 rfl hR rfl rfl ?_
    try rw [hs2.n0]
    rw [zset_eq]
    refine z_if_le (tgt := 25) eX12_cuffs_20 rfl ⟨by omega, by omega⟩ (fun h20 => (by exfalso; omega)) (fun h20 => ?_)
    refine z_iconst eX12_cuffs_23 ?_
    refine z_ireturn eX12_cuffs_24 rfl ?_
    exact zXe (hs2.set (by decide) (fun _ => Or.inl rfl)) rfl
theorem qMax_inv (f : Int → Int) (n : Int) (hn : 0 ≤ n) : ((qMax f (-1) 0 n).1 = -1 ∧ (qMax f (-1) 0 n).2 = 0) ∨ (0 ≤ (qMax f (-1) 0 n).1 ∧ (qMax f (-1) 0 n).1 < n ∧ (qMax f (-1) 0 n).2 = f (qMax f (-1) 0 n).1) := by
  unfold qMax
  exact zfold_P (f := fun i (r : Int × Int) => if r.2 < f i then (i, f i) else r) (P := fun n r => (r.1 = -1 ∧ r.2 = 0) ∨ (0 ≤ r.1 ∧ r.1 < n ∧ r.2 = f r.1)) (s := (-1, 0)) (Or.inl ⟨rfl, rfl⟩) (fun t r ht h => by
    split
    · exact Or.inr ⟨ht, by dsimp only; omega, rfl⟩
    · rcases h with a | a
      · exact Or.inl a
      · exact Or.inr ⟨a.1, by omega, a.2.2⟩) n hn
theorem m_X12_likely {G : zG} {lay : zLay} {σ C0 : zMem} {nx x : Int} (hR : RefL lay x) (hS : TxS lay C0) (hJ : zJs σ) (hM : zOL (σ 1)) (hT : zTape σ) : zMM G 71 KX12_likely [zP x] lay (rC x σ C0) nx (0, 0) (zX' (some (zI (zif (qCuffs (σ 5) (σ 1) (σ 0 8)) (qMax (qWays σ (-1)) (-1) 0 5).1 0))) (zScx (qHrd σ (qThr1 (qCuffs (σ 5) (σ 1) (σ 0 8))))) lay C0 nx x) := by
  refine z_met' (L := [zP x, zU, zU]) gX12_likely.1 rfl rfl (Nat.le_of_ble_eq_true rfl) rfl ?_
  by_cases hC : qCuffs (σ 5) (σ 1) (σ 0 8)
  · rw [zif_t hC, qThr1_t hC]
    have hwb := qWays_bd σ (-1)
    have w29 : ∀ t : Int, 0 ≤ t → t ≤ 5 → ∀ S : zMem, zScx (qHrd σ 0) S → (∀ t, 0 ≤ t → t < 5 → S 9 t = qWays σ (-1) t) → zW G KX12_likely 71 (zX' (some (zI (qMax (qWays σ (-1)) (-1) 0 5).1)) (zScx (qHrd σ 0)) lay C0 nx x) 29 [zP x, zI (qMax (qWays σ (-1)) (-1) 0 t).1, zI t] [] lay (rC x S C0) nx (0, 0) := by
      refine z_up 5 ?_ ?_
      · intro S hSc h9
        refine z_il2 eX12_likely_29 ?_
        refine z_iconst eX12_likely_30 ?_
        refine z_icmp_ge (tgt := 67) eX12_likely_31 rfl ⟨⟨by omega, by omega⟩, ⟨by omega, by omega⟩⟩ (fun h31 => ?_) (fun h31 => (by exfalso; omega))
        refine z_il1 eX12_likely_67 ?_
        refine z_ireturn eX12_likely_68 rfl ?_
        exact zXe hSc rfl
      · intro t t0 t1 ih S hSc h9
        rw [qMax_s _ _ _ t0] at ih
        have hi := qMax_inv (qWays σ (-1)) t t0
        have b0 := hwb t
        have b1 := hwb (qMax (qWays σ (-1)) (-1) 0 t).1
        have e9 := h9 t t0 t1
        generalize qMax (qWays σ (-1)) (-1) 0 t = r at ih hi b1 ⊢
        have e9r : r.1 ≠ -1 → S 9 r.1 = qWays σ (-1) r.1 := fun z => h9 r.1 (by omega) (by omega)
        refine z_il2 eX12_likely_29 ?_
        refine z_iconst eX12_likely_30 ?_
        refine z_icmp_ge (tgt := 67) eX12_likely_31 rfl ⟨⟨by omega, by omega⟩, ⟨by omega, by omega⟩⟩ (fun h31 => (by exfalso; omega)) (fun h31 => ?_)
        refine z_al0 eX12_likely_34 hR.ne ?_
        refine z_ra lX12_38 eX12_likely_35 rfl hR rfl ?_
        refine z_il2 eX12_likely_38 ?_
        refine z_rlJ eX12_likely_39 hR (by decide) rfl rfl ⟨by omega, by omega⟩ ?_
        rw [e9]
        refine z_il1 eX12_likely_40 ?_
        refine z_iconst eX12_likely_41 ?_
        refine z_icmp_ne (tgt := 49) eX12_likely_42 rfl ⟨⟨by omega, by omega⟩, ⟨by omega, by omega⟩⟩ (fun h42 => ?_) (fun h42 => ?_)
        · refine z_al0 eX12_likely_49 hR.ne ?_
          refine z_ra lX12_38 eX12_likely_50 rfl hR rfl ?_
          refine z_il1 eX12_likely_53 ?_
          refine z_rlJ eX12_likely_54 hR (by decide) rfl rfl ⟨by omega, by omega⟩ ?_
          first | rw [e9r h42] | skip
          refine z_lcmp eX12_likely_55 ⟨⟨by omega, by omega⟩, ⟨by omega, by omega⟩⟩ ?_
          refine z_if_le (tgt := 61) eX12_likely_56 rfl (zcmp_in _ _) (fun h56 => ?_) (fun h56 => ?_)
          · refine z_ii2 eX12_likely_61 (Nat.ne_of_beq_eq_false rfl) ?_
            refine z_goto eX12_likely_64 (tgt := 29) rfl ?_
            first | (have e := zcmp_le.mp h56; rw [if_neg (by omega)] at ih; exact ih S hSc h9) | (have e := mt zcmp_le.mpr h56; rw [if_pos (by omega)] at ih; exact ih S hSc h9) | fail
          · refine z_il2 eX12_likely_59 ?_
            refine z_is1 eX12_likely_60 (Nat.ne_of_beq_eq_false rfl) ?_
            refine z_ii2 eX12_likely_61 (Nat.ne_of_beq_eq_false rfl) ?_
            refine z_goto eX12_likely_64 (tgt := 29) rfl ?_
            first | (have e := zcmp_le.mp h56; rw [if_neg (by omega)] at ih; exact ih S hSc h9) | (have e := mt zcmp_le.mpr h56; rw [if_pos (by omega)] at ih; exact ih S hSc h9) | fail
        · refine z_lconst0 eX12_likely_45 ?_
          refine z_goto eX12_likely_46 (tgt := 55) rfl ?_
          first | rw [e9r h42] | skip
          refine z_lcmp eX12_likely_55 ⟨⟨by omega, by omega⟩, ⟨by omega, by omega⟩⟩ ?_
          refine z_if_le (tgt := 61) eX12_likely_56 rfl (zcmp_in _ _) (fun h56 => ?_) (fun h56 => ?_)
          · refine z_ii2 eX12_likely_61 (Nat.ne_of_beq_eq_false rfl) ?_
            refine z_goto eX12_likely_64 (tgt := 29) rfl ?_
            first | (have e := zcmp_le.mp h56; rw [if_neg (by omega)] at ih; exact ih S hSc h9) | (have e := mt zcmp_le.mpr h56; rw [if_pos (by omega)] at ih; exact ih S hSc h9) | fail
          · refine z_il2 eX12_likely_59 ?_
            refine z_is1 eX12_likely_60 (Nat.ne_of_beq_eq_false rfl) ?_
            refine z_ii2 eX12_likely_61 (Nat.ne_of_beq_eq_false rfl) ?_
            refine z_goto eX12_likely_64 (tgt := 29) rfl ?_
            first | (have e := zcmp_le.mp h56; rw [if_neg (by omega)] at ih; exact ih S hSc h9) | (have e := mt zcmp_le.mpr h56; rw [if_pos (by omega)] at ih; exact ih S hSc h9) | fail
    unfold qHrd at *
    refine z_al0 eX12_likely_0 hR.ne ?_
    refine z_al0 eX12_likely_1 hR.ne ?_
    refine z_V0x eX12_likely_2 vX12_389 rfl rfl (Nat.le_of_ble_eq_true rfl) (Nat.le_of_ble_eq_true rfl) hR.x (m_X12_heard hR hS hJ hM hT) (fun s2 hs2 => ?_)
    obtain ⟨hs2, h9⟩ := hs2
    have h9 := h9 hC
    refine z_ifb_eq (tgt := 12) eX12_likely_5 rfl (fun h5 => absurd hC h5) (fun h5 => ?_)
    refine z_iconst eX12_likely_8 ?_
    refine z_goto eX12_likely_9 (tgt := 13) rfl ?_
    refine z_rp (j := 0) lX12_48 eX12_likely_13 rfl hR rfl rfl ?_
    refine z_al0 eX12_likely_16 hR.ne ?_
    refine z_rg (j := 0) lX12_48 eX12_likely_17 rfl hR rfl rfl ?_
    try rw [hs2.n0]
    rw [zset_eq]
    refine z_if_le (tgt := 25) eX12_likely_20 rfl ⟨by omega, by omega⟩ (fun h20 => ?_) (fun h20 => (by exfalso; omega))
    refine z_iconst eX12_likely_25 ?_
    refine z_is1 eX12_likely_26 (Nat.ne_of_beq_eq_false rfl) ?_
    refine z_iconst eX12_likely_27 ?_
    refine z_is2 eX12_likely_28 (Nat.ne_of_beq_eq_false rfl) ?_
    exact w29 0 (by decide) (by decide) _ (hs2.set (by decide) (fun _ => Or.inl rfl)) (fun t t0 t1 => by rw [zset_o (by decide)]; exact h9 t t0 t1)
  · rw [zif_f hC, qThr1_f hC]
    unfold qHrd
    refine z_al0 eX12_likely_0 hR.ne ?_
    refine z_al0 eX12_likely_1 hR.ne ?_
    refine z_V0x eX12_likely_2 vX12_389 rfl rfl (Nat.le_of_ble_eq_true rfl) (Nat.le_of_ble_eq_true rfl) hR.x (m_X12_heard hR hS hJ hM hT) (fun s2 hs2 => ?_)
    obtain ⟨hs2, h9⟩ := hs2
    refine z_ifb_eq (tgt := 12) eX12_likely_5 rfl (fun h5 => ?_) (fun h5 => absurd h5 hC)
    refine z_iconst eX12_likely_12 ?_
    refine z_rp (j := 0) lX12_48 eX12_likely_13 rfl hR rfl rfl ?_
    refine z_al0 eX12_likely_16 hR.ne ?_
    refine z_rg (j := 0) lX12_48 eX12_likely_17 rfl hR rfl rfl ?_
    try rw [hs2.n0]
    rw [zset_eq]
    refine z_if_le (tgt := 25) eX12_likely_20 rfl ⟨by omega, by omega⟩ (fun h20 => (by exfalso; omega)) (fun h20 => ?_)
    refine z_iconst eX12_likely_23 ?_
    refine z_ireturn eX12_likely_24 rfl ?_
    exact zXe (hs2.set (by decide) (fun _ => Or.inl rfl)) rfl
