/-! Sides. -/
noncomputable def qVotesOf (M : Int → Int) (side : Int) : Int := (if zbit side 7 = 1 then M 10 else 0) + zsum (fun p => if zbit (zand side (qOuts M)) p = 1 then M (46 + 4 * p + 1) else 0) (M 3)
def qVoters (M : Int → Int) : Int := zor (qOuts M) 128
theorem m_X12_voters {G : zG} {lay : zLay} {σ C0 : zMem} {nx x : Int} (hR : RefL lay x) (hM : zOK (σ 1)) : zMM G 3 KX12_voters [zP x] lay (rC x σ C0) nx (0, 0) (zR (some (zI (qVoters (σ 1)))) lay (rC x (σ) C0) nx) := by
  refine z_met' (L := [zP x]) gX12_voters.1 rfl rfl (Nat.le_of_ble_eq_true rfl) rfl ?_
  have hm3 := hM.1.m3
  refine z_al0 eX12_voters_0 hR.ne ?_
  refine z_V0 eX12_voters_1 vX12_280 rfl rfl (Nat.le_of_ble_eq_true rfl) (Nat.le_of_ble_eq_true rfl) hR.x (m_X12_outs hR hm3) ?_
  refine z_sipush eX12_voters_4 (by decide) ?_
  refine z_ior eX12_voters_7 ?_
  refine z_ireturn eX12_voters_8 rfl ?_
  first | exact ⟨rfl, rfl, rfl, rfl⟩ | exact zRb1 (by omega) | exact zRb0 (by omega) | exact zRe (by omega)
theorem qVotesOf_bd {M : Int → Int} (hM : zOK M) (side : Int) : 0 ≤ qVotesOf M side ∧ qVotesOf M side ≤ 160 := by
  have h3 := hM.1.m3
  have h10 := hM.1.s 10 rfl (by omega)
  have := zsum_bnd (f := fun p => if zbit (zand side (qOuts M)) p = 1 then M (46 + 4 * p + 1) else 0) (c := 20) h3.1 (fun t h0 h1 => by
    have hU := hM.1.U (p := t) ⟨h0, by omega⟩
    split <;> omega)
  unfold qVotesOf
  split <;> omega
theorem m_X12_votesOf {G : zG} {lay : zLay} {σ C0 : zMem} {nx x : Int} {side : Int} (hR : RefL lay x) (hM : zOK (σ 1)) : zMM G 3 KX12_votesOf [zP x, zI side] lay (rC x σ C0) nx (0, 0) (zR (some (zI (qVotesOf (σ 1) side))) lay (rC x (σ) C0) nx) := by
  refine z_met' (L := [zP x, zI side, zU, zU]) gX12_votesOf.1 rfl rfl (Nat.le_of_ble_eq_true rfl) rfl ?_
  have hm3 := hM.1.m3
  unfold qVotesOf
  have w23 : ∀ u : Int, ∀ t : Int, 0 ≤ t → t ≤ σ 1 3 → zW G KX12_votesOf 3 (zR (some (zI (u + zsum (fun p => if zbit (zand side (qOuts (σ 1))) p = 1 then σ 1 (46 + 4 * p + 1) else 0) (σ 1 3)))) lay (rC x σ C0) nx) 23 [zP x, zI side, zI (u + zsum (fun p => if zbit (zand side (qOuts (σ 1))) p = 1 then σ 1 (46 + 4 * p + 1) else 0) t), zI t] [] lay (rC x σ C0) nx (0, 0) := by
    intro u
    refine z_up (σ 1 3) ?_ ?_
    · skip
      refine z_il3 eX12_votesOf_23 ?_
      refine z_al0 eX12_votesOf_24 hR.ne ?_
      refine z_ra lX12_7 eX12_votesOf_25 rfl hR rfl ?_
      refine z_iconst eX12_votesOf_28 ?_
      refine z_rl eX12_votesOf_29 hR (by decide) rfl rfl ⟨by omega, by omega⟩ ?_
      refine z_icmp_ge (tgt := 65) eX12_votesOf_30 rfl ⟨⟨by omega, by omega⟩, ⟨by omega, by omega⟩⟩ (fun h30 => ?_) (fun h30 => (by exfalso; omega))
      refine z_il2 eX12_votesOf_65 ?_
      refine z_ireturn eX12_votesOf_66 rfl ?_
      first | exact ⟨rfl, rfl, rfl, rfl⟩ | exact zRb1 (by omega) | exact zRb0 (by omega) | exact zRe (by omega)
    · intro t t0 t1 ih
      rw [zsum_s _ t0, ← Int.add_assoc] at ih
      refine z_il3 eX12_votesOf_23 ?_
      refine z_al0 eX12_votesOf_24 hR.ne ?_
      refine z_ra lX12_7 eX12_votesOf_25 rfl hR rfl ?_
      refine z_iconst eX12_votesOf_28 ?_
      refine z_rl eX12_votesOf_29 hR (by decide) rfl rfl ⟨by omega, by omega⟩ ?_
      refine z_icmp_ge (tgt := 65) eX12_votesOf_30 rfl ⟨⟨by omega, by omega⟩, ⟨by omega, by omega⟩⟩ (fun h30 => (by exfalso; omega)) (fun h30 => ?_)
      refine z_il2 eX12_votesOf_33 ?_
      refine z_il1 eX12_votesOf_34 ?_
      refine z_al0 eX12_votesOf_35 hR.ne ?_
      refine z_V0 eX12_votesOf_36 vX12_280 rfl rfl (Nat.le_of_ble_eq_true rfl) (Nat.le_of_ble_eq_true rfl) hR.x (m_X12_outs hR hm3) ?_
      change zW _ _ _ _ _ _ (zI (qOuts (σ 1)) :: _) _ _ _ _
      refine z_iand eX12_votesOf_39 ?_
      refine z_il3 eX12_votesOf_40 ?_
      refine z_S2 eX12_votesOf_41 vX12_290 rfl rfl (Nat.le_of_ble_eq_true rfl) (Nat.le_of_ble_eq_true rfl) (m_X12_isOf ) ?_
      refine z_ifb_eq (tgt := 56) eX12_votesOf_44 rfl (fun h44 => ?_) (fun h44 => ?_)
      · refine z_iconst eX12_votesOf_56 ?_
        refine z_iadd eX12_votesOf_57 ?_
        refine z_is2 eX12_votesOf_58 (Nat.ne_of_beq_eq_false rfl) ?_
        refine z_ii3 eX12_votesOf_59 (Nat.ne_of_beq_eq_false rfl) ?_
        refine z_goto eX12_votesOf_62 (tgt := 23) rfl ?_
        first | (rw [if_pos h44] at ih; exact ih) | (rw [if_neg h44] at ih; exact ih)
      · refine z_al0 eX12_votesOf_47 hR.ne ?_
        refine z_il3 eX12_votesOf_48 ?_
        refine z_iconst eX12_votesOf_49 ?_
        refine z_V2 eX12_votesOf_50 vX12_62 rfl rfl (Nat.le_of_ble_eq_true rfl) (Nat.le_of_ble_eq_true rfl) hR.x (m_X12_of hR ⟨by omega, by omega⟩ (by decide)) ?_
        refine z_goto eX12_votesOf_53 (tgt := 57) rfl ?_
        refine z_iadd eX12_votesOf_57 ?_
        refine z_is2 eX12_votesOf_58 (Nat.ne_of_beq_eq_false rfl) ?_
        refine z_ii3 eX12_votesOf_59 (Nat.ne_of_beq_eq_false rfl) ?_
        refine z_goto eX12_votesOf_62 (tgt := 23) rfl ?_
        first | (rw [if_pos h44] at ih; exact ih) | (rw [if_neg h44] at ih; exact ih)
  refine z_il1 eX12_votesOf_0 ?_
  refine z_bipush eX12_votesOf_1 (by decide) ?_
  refine z_S2 eX12_votesOf_3 vX12_290 rfl rfl (Nat.le_of_ble_eq_true rfl) (Nat.le_of_ble_eq_true rfl) (m_X12_isOf ) ?_
  refine z_ifb_eq (tgt := 19) eX12_votesOf_6 rfl (fun h6 => ?_) (fun h6 => ?_)
  · refine z_iconst eX12_votesOf_19 ?_
    refine z_is2 eX12_votesOf_20 (Nat.ne_of_beq_eq_false rfl) ?_
    refine z_iconst eX12_votesOf_21 ?_
    refine z_is3 eX12_votesOf_22 (Nat.ne_of_beq_eq_false rfl) ?_
    first | (rw [if_pos h6]; have e := w23 (σ 1 10) 0 (by decide) hm3.1; rw [zsum_0, Int.add_zero] at e; exact e) | (rw [if_neg h6]; have e := w23 0 0 (by decide) hm3.1; rw [zsum_0, Int.add_zero] at e; exact e)
  · refine z_al0 eX12_votesOf_9 hR.ne ?_
    refine z_ra lX12_7 eX12_votesOf_10 rfl hR rfl ?_
    refine z_bipush eX12_votesOf_13 (by decide) ?_
    refine z_rl eX12_votesOf_15 hR (by decide) rfl rfl ⟨by omega, by omega⟩ ?_
    refine z_goto eX12_votesOf_16 (tgt := 20) rfl ?_
    refine z_is2 eX12_votesOf_20 (Nat.ne_of_beq_eq_false rfl) ?_
    refine z_iconst eX12_votesOf_21 ?_
    refine z_is3 eX12_votesOf_22 (Nat.ne_of_beq_eq_false rfl) ?_
    first | (rw [if_pos h6]; have e := w23 (σ 1 10) 0 (by decide) hm3.1; rw [zsum_0, Int.add_zero] at e; exact e) | (rw [if_neg h6]; have e := w23 0 0 (by decide) hm3.1; rw [zsum_0, Int.add_zero] at e; exact e)
def qWins (M : Int → Int) (side : Int) : Prop := qVotesOf M (qVoters M) < 2 * qVotesOf M side
theorem m_X12_winsBy {G : zG} {lay : zLay} {σ C0 : zMem} {nx x : Int} {side : Int} (hR : RefL lay x) (hM : zOK (σ 1)) : zMM G 4 KX12_winsBy [zP x, zI side] lay (rC x σ C0) nx (0, 0) (zR (some (zI (zbi (qWins (σ 1) side)))) lay (rC x (σ) C0) nx) := by
  refine z_met' (L := [zP x, zI side]) gX12_winsBy.1 rfl rfl (Nat.le_of_ble_eq_true rfl) rfl ?_
  have b1 := qVotesOf_bd hM side
  have b2 := qVotesOf_bd hM (qVoters (σ 1))
  unfold qWins
  refine z_iconst eX12_winsBy_0 ?_
  refine z_al0 eX12_winsBy_1 hR.ne ?_
  refine z_il1 eX12_winsBy_2 ?_
  refine z_V1 eX12_winsBy_3 vX12_407 rfl rfl (Nat.le_of_ble_eq_true rfl) (Nat.le_of_ble_eq_true rfl) hR.x (m_X12_votesOf hR hM) ?_
  refine z_imul eX12_winsBy_6 ?_
  refine z_al0 eX12_winsBy_7 hR.ne ?_
  refine z_al0 eX12_winsBy_8 hR.ne ?_
  refine z_V0 eX12_winsBy_9 vX12_410 rfl rfl (Nat.le_of_ble_eq_true rfl) (Nat.le_of_ble_eq_true rfl) hR.x (m_X12_voters hR hM) ?_
  refine z_V1 eX12_winsBy_12 vX12_407 rfl rfl (Nat.le_of_ble_eq_true rfl) (Nat.le_of_ble_eq_true rfl) hR.x (m_X12_votesOf hR hM) ?_
  refine z_icmp_le (tgt := 22) eX12_winsBy_15 rfl ⟨⟨by omega, by omega⟩, ⟨by omega, by omega⟩⟩ (fun h15 => ?_) (fun h15 => ?_)
  · refine z_iconst eX12_winsBy_22 ?_
    refine z_zreturn eX12_winsBy_23 rfl (by first | exact Or.inl rfl | exact Or.inr rfl | exact zbi_01 _ | assumption | omega) ?_
    first | exact ⟨rfl, rfl, rfl, rfl⟩ | exact zRb1 (by omega) | exact zRb0 (by omega) | exact zRe (by omega)
  · refine z_iconst eX12_winsBy_18 ?_
    refine z_goto eX12_winsBy_19 (tgt := 23) rfl ?_
    refine z_zreturn eX12_winsBy_23 rfl (by first | exact Or.inl rfl | exact Or.inr rfl | exact zbi_01 _ | assumption | omega) ?_
    first | exact ⟨rfl, rfl, rfl, rfl⟩ | exact zRb1 (by omega) | exact zRb0 (by omega) | exact zRe (by omega)
theorem m_X12_wins {G : zG} {lay : zLay} {σ C0 : zMem} {nx x : Int} {side : Int} (hR : RefL lay x) (hM : zOK (σ 1)) : zMM G 5 KX12_wins [zP x, zI side] lay (rC x σ C0) nx (0, 0) (zR (some (zI (zbi (qWins (σ 1) side)))) lay (rC x (zset σ 0 0 0) C0) nx) := by
  refine z_met' (L := [zP x, zI side]) gX12_wins.1 rfl rfl (Nat.le_of_ble_eq_true rfl) rfl ?_
  have e1 : zset σ 0 0 0 1 = σ 1 := zset_001
  refine z_al0 eX12_wins_0 hR.ne ?_
  refine z_iconst eX12_wins_1 ?_
  refine z_rp (j := 0) lX12_48 eX12_wins_2 rfl hR rfl rfl ?_
  refine z_al0 eX12_wins_5 hR.ne ?_
  refine z_il1 eX12_wins_6 ?_
  refine z_V1 eX12_wins_7 vX12_413 rfl rfl (Nat.le_of_ble_eq_true rfl) (Nat.le_of_ble_eq_true rfl) hR.x (m_X12_winsBy hR (by rw [e1]; exact hM)) ?_
  refine z_zreturn eX12_wins_10 rfl (by first | exact Or.inl rfl | exact Or.inr rfl | exact zbi_01 _ | assumption | omega) ?_
  rw [e1]; exact ⟨rfl, rfl, rfl, rfl⟩
def qSwings (M : Int → Int) (side p : Int) : Prop := zbit side p = 1 ∧ qWins M side ∧ ¬ qWins M (zand side (zxor (zshl 1 p) (-1)))
theorem m_X12_swingsBy {G : zG} {lay : zLay} {σ C0 : zMem} {nx x : Int} {side p : Int} (hR : RefL lay x) (hM : zOK (σ 1)) : zMM G 5 KX12_swingsBy [zP x, zI side, zI p] lay (rC x σ C0) nx (0, 0) (zR (some (zI (zbi (qSwings (σ 1) side p)))) lay (rC x (σ) C0) nx) := by
  refine z_met' (L := [zP x, zI side, zI p]) gX12_swingsBy.1 rfl rfl (Nat.le_of_ble_eq_true rfl) rfl ?_
  unfold qSwings
  refine z_il1 eX12_swingsBy_0 ?_
  refine z_il2 eX12_swingsBy_1 ?_
  refine z_S2 eX12_swingsBy_2 vX12_290 rfl rfl (Nat.le_of_ble_eq_true rfl) (Nat.le_of_ble_eq_true rfl) (m_X12_isOf ) ?_
  refine z_ifb_eq (tgt := 34) eX12_swingsBy_5 rfl (fun h5 => ?_) (fun h5 => ?_)
  · refine z_iconst eX12_swingsBy_34 ?_
    refine z_zreturn eX12_swingsBy_35 rfl (by first | exact Or.inl rfl | exact Or.inr rfl | exact zbi_01 _ | assumption | omega) ?_
    first | (have e2 := h27; first | exact zRb1 ⟨h5, h13, e2⟩ | exact zRb0 (fun z => z.2.2 e2)) | (have e2 := h13; exact zRb0 (fun z => e2 z.2.1)) | exact zRb0 (fun z => h5 z.1) | fail
  · refine z_al0 eX12_swingsBy_8 hR.ne ?_
    refine z_il1 eX12_swingsBy_9 ?_
    refine z_V1 eX12_swingsBy_10 vX12_413 rfl rfl (Nat.le_of_ble_eq_true rfl) (Nat.le_of_ble_eq_true rfl) hR.x (m_X12_winsBy hR hM) ?_
    refine z_ifb_eq (tgt := 34) eX12_swingsBy_13 rfl (fun h13 => ?_) (fun h13 => ?_)
    · refine z_iconst eX12_swingsBy_34 ?_
      refine z_zreturn eX12_swingsBy_35 rfl (by first | exact Or.inl rfl | exact Or.inr rfl | exact zbi_01 _ | assumption | omega) ?_
      first | (have e2 := h27; first | exact zRb1 ⟨h5, h13, e2⟩ | exact zRb0 (fun z => z.2.2 e2)) | (have e2 := h13; exact zRb0 (fun z => e2 z.2.1)) | exact zRb0 (fun z => h5 z.1) | fail
    · refine z_al0 eX12_swingsBy_16 hR.ne ?_
      refine z_il1 eX12_swingsBy_17 ?_
      refine z_iconst eX12_swingsBy_18 ?_
      refine z_il2 eX12_swingsBy_19 ?_
      refine z_ishl eX12_swingsBy_20 ?_
      refine z_iconst eX12_swingsBy_21 ?_
      refine z_ixor eX12_swingsBy_22 ?_
      refine z_iand eX12_swingsBy_23 ?_
      refine z_V1 eX12_swingsBy_24 vX12_413 rfl rfl (Nat.le_of_ble_eq_true rfl) (Nat.le_of_ble_eq_true rfl) hR.x (m_X12_winsBy hR hM) ?_
      refine z_ifb_ne (tgt := 34) eX12_swingsBy_27 rfl (fun h27 => ?_) (fun h27 => ?_)
      · refine z_iconst eX12_swingsBy_34 ?_
        refine z_zreturn eX12_swingsBy_35 rfl (by first | exact Or.inl rfl | exact Or.inr rfl | exact zbi_01 _ | assumption | omega) ?_
        first | (have e2 := h27; first | exact zRb1 ⟨h5, h13, e2⟩ | exact zRb0 (fun z => z.2.2 e2)) | (have e2 := h13; exact zRb0 (fun z => e2 z.2.1)) | exact zRb0 (fun z => h5 z.1) | fail
      · refine z_iconst eX12_swingsBy_30 ?_
        refine z_goto eX12_swingsBy_31 (tgt := 35) rfl ?_
        refine z_zreturn eX12_swingsBy_35 rfl (by first | exact Or.inl rfl | exact Or.inr rfl | exact zbi_01 _ | assumption | omega) ?_
        first | (have e2 := h27; first | exact zRb1 ⟨h5, h13, e2⟩ | exact zRb0 (fun z => z.2.2 e2)) | (have e2 := h13; exact zRb0 (fun z => e2 z.2.1)) | exact zRb0 (fun z => h5 z.1) | fail
noncomputable def qSwOf (M : Int → Int) (p n : Int) : Int := zsum (fun side => zbi (zand side (zxor (qVoters M) (-1)) = 0 ∧ qSwings M side p)) n
theorem qSwOf_bd (M : Int → Int) (p : Int) {n : Int} (hn : 0 ≤ n) : 0 ≤ qSwOf M p n ∧ qSwOf M p n ≤ 1 * n := zsum_bnd hn (fun t _ _ => by have := zbi_01 (zand t (zxor (qVoters M) (-1)) = 0 ∧ qSwings M t p); omega)
theorem m_X12_swingsOf {G : zG} {lay : zLay} {σ C0 : zMem} {nx x : Int} {p : Int} (hR : RefL lay x) (hM : zOK (σ 1)) : zMM G 6 KX12_swingsOf [zP x, zI p] lay (rC x σ C0) nx (0, 0) (zR (some (zI (qSwOf (σ 1) p 256))) lay (rC x (σ) C0) nx) := by
  refine z_met' (L := [zP x, zI p, zU, zU]) gX12_swingsOf.1 rfl rfl (Nat.le_of_ble_eq_true rfl) rfl ?_
  have hl : ∀ t : Int, 0 ≤ t → t ≤ 256 → zW G KX12_swingsOf 6 (zR (some (zI (qSwOf (σ 1) p 256))) lay (rC x σ C0) nx) 4 [zP x, zI p, zI (qSwOf (σ 1) p t), zI t] [] lay (rC x σ C0) nx (0, 0) := by
    refine z_up 256 ?_ ?_
    · skip
      refine z_il3 eX12_swingsOf_4 ?_
      refine z_sipush eX12_swingsOf_5 (by decide) ?_
      refine z_icmp_ge (tgt := 45) eX12_swingsOf_8 rfl ⟨⟨by omega, by omega⟩, ⟨by omega, by omega⟩⟩ (fun h8 => ?_) (fun h8 => (by exfalso; omega))
      refine z_il2 eX12_swingsOf_45 ?_
      refine z_ireturn eX12_swingsOf_46 rfl ?_
      first | exact ⟨rfl, rfl, rfl, rfl⟩ | exact zRb1 (by omega) | exact zRb0 (by omega) | exact zRe (by omega)
    · intro t t0 t1 ih
      have e : qSwOf (σ 1) p (t + 1) = qSwOf (σ 1) p t + zbi (zand t (zxor (qVoters (σ 1)) (-1)) = 0 ∧ qSwings (σ 1) t p) := zsum_s _ t0
      rw [e] at ih
      have hza := zand_in t (zxor (qVoters (σ 1)) (-1))
      refine z_il3 eX12_swingsOf_4 ?_
      refine z_sipush eX12_swingsOf_5 (by decide) ?_
      refine z_icmp_ge (tgt := 45) eX12_swingsOf_8 rfl ⟨⟨by omega, by omega⟩, ⟨by omega, by omega⟩⟩ (fun h8 => (by exfalso; omega)) (fun h8 => ?_)
      refine z_il2 eX12_swingsOf_11 ?_
      refine z_il3 eX12_swingsOf_12 ?_
      refine z_al0 eX12_swingsOf_13 hR.ne ?_
      refine z_V0 eX12_swingsOf_14 vX12_410 rfl rfl (Nat.le_of_ble_eq_true rfl) (Nat.le_of_ble_eq_true rfl) hR.x (m_X12_voters hR hM) ?_
      refine z_iconst eX12_swingsOf_17 ?_
      refine z_ixor eX12_swingsOf_18 ?_
      refine z_iand eX12_swingsOf_19 ?_
      refine z_if_ne (tgt := 36) eX12_swingsOf_20 rfl hza (fun h20 => ?_) (fun h20 => ?_)
      · refine z_iconst eX12_swingsOf_36 ?_
        refine z_iadd eX12_swingsOf_37 ?_
        refine z_is2 eX12_swingsOf_38 (Nat.ne_of_beq_eq_false rfl) ?_
        refine z_ii3 eX12_swingsOf_39 (Nat.ne_of_beq_eq_false rfl) ?_
        refine z_goto eX12_swingsOf_42 (tgt := 4) rfl ?_
        first | (have e2 := h29; first | (rw [zbi_t ⟨h20, e2⟩] at ih; exact ih) | (rw [zbi_f (fun z => e2 z.2)] at ih; exact ih)) | (rw [zbi_f (fun z => h20 z.1)] at ih; exact ih) | fail
      · refine z_al0 eX12_swingsOf_23 hR.ne ?_
        refine z_il3 eX12_swingsOf_24 ?_
        refine z_il1 eX12_swingsOf_25 ?_
        refine z_V2 eX12_swingsOf_26 vX12_416 rfl rfl (Nat.le_of_ble_eq_true rfl) (Nat.le_of_ble_eq_true rfl) hR.x (m_X12_swingsBy hR hM) ?_
        refine z_ifb_eq (tgt := 36) eX12_swingsOf_29 rfl (fun h29 => ?_) (fun h29 => ?_)
        · refine z_iconst eX12_swingsOf_36 ?_
          refine z_iadd eX12_swingsOf_37 ?_
          refine z_is2 eX12_swingsOf_38 (Nat.ne_of_beq_eq_false rfl) ?_
          refine z_ii3 eX12_swingsOf_39 (Nat.ne_of_beq_eq_false rfl) ?_
          refine z_goto eX12_swingsOf_42 (tgt := 4) rfl ?_
          first | (have e2 := h29; first | (rw [zbi_t ⟨h20, e2⟩] at ih; exact ih) | (rw [zbi_f (fun z => e2 z.2)] at ih; exact ih)) | (rw [zbi_f (fun z => h20 z.1)] at ih; exact ih) | fail
        · refine z_iconst eX12_swingsOf_32 ?_
          refine z_goto eX12_swingsOf_33 (tgt := 37) rfl ?_
          refine z_iadd eX12_swingsOf_37 ?_
          refine z_is2 eX12_swingsOf_38 (Nat.ne_of_beq_eq_false rfl) ?_
          refine z_ii3 eX12_swingsOf_39 (Nat.ne_of_beq_eq_false rfl) ?_
          refine z_goto eX12_swingsOf_42 (tgt := 4) rfl ?_
          first | (have e2 := h29; first | (rw [zbi_t ⟨h20, e2⟩] at ih; exact ih) | (rw [zbi_f (fun z => e2 z.2)] at ih; exact ih)) | (rw [zbi_f (fun z => h20 z.1)] at ih; exact ih) | fail
  refine z_iconst eX12_swingsOf_0 ?_
  refine z_is2 eX12_swingsOf_1 (Nat.ne_of_beq_eq_false rfl) ?_
  refine z_iconst eX12_swingsOf_2 ?_
  refine z_is3 eX12_swingsOf_3 (Nat.ne_of_beq_eq_false rfl) ?_
  exact hl 0 (by decide) (by decide)
def qVoter (M : Int → Int) (p : Int) : Prop := (0 ≤ p ∧ p < M 3) ∨ p = 7
theorem m_X12_isVoter {G : zG} {lay : zLay} {σ C0 : zMem} {nx x : Int} {p : Int} (hR : RefL lay x) (hM : zOK (σ 1)) (hp : zin p) : zMM G 3 KX12_isVoter [zP x, zI p] lay (rC x σ C0) nx (0, 0) (zR none lay (rC x (zset σ 0 0 (qThr1 (qVoter (σ 1) p))) C0) nx) := by
  refine z_met' (L := [zP x, zI p]) gX12_isVoter.1 rfl rfl (Nat.le_of_ble_eq_true rfl) rfl ?_
  obtain ⟨p1, p2⟩ := hp
  have hm3 := hM.1.m3
  refine z_al0 eX12_isVoter_0 hR.ne ?_
  refine z_al0 eX12_isVoter_1 hR.ne ?_
  refine z_il1 eX12_isVoter_2 ?_
  refine z_V1 eX12_isVoter_3 vX12_317 rfl rfl (Nat.le_of_ble_eq_true rfl) (Nat.le_of_ble_eq_true rfl) hR.x (m_X12_isMember hR ⟨by omega, by omega⟩ hm3) ?_
  refine z_ifb_ne (tgt := 15) eX12_isVoter_6 rfl (fun h6 => ?_) (fun h6 => ?_)
  · refine z_iconst eX12_isVoter_15 ?_
    refine z_goto eX12_isVoter_16 (tgt := 20) rfl ?_
    refine z_rp (j := 0) lX12_48 eX12_isVoter_20 rfl hR rfl rfl ?_
    refine z_return eX12_isVoter_23 rfl ?_
    first | (rw [qThr1_t (by unfold qVoter; omega)]; exact ⟨rfl, rfl, rfl, rfl⟩) | (rw [qThr1_f (by unfold qVoter; omega)]; exact ⟨rfl, rfl, rfl, rfl⟩)
  · refine z_il1 eX12_isVoter_9 ?_
    refine z_bipush eX12_isVoter_10 (by decide) ?_
    refine z_icmp_ne (tgt := 19) eX12_isVoter_12 rfl ⟨⟨by omega, by omega⟩, ⟨by omega, by omega⟩⟩ (fun h12 => ?_) (fun h12 => ?_)
    · refine z_iconst eX12_isVoter_19 ?_
      refine z_rp (j := 0) lX12_48 eX12_isVoter_20 rfl hR rfl rfl ?_
      refine z_return eX12_isVoter_23 rfl ?_
      first | (rw [qThr1_t (by unfold qVoter; omega)]; exact ⟨rfl, rfl, rfl, rfl⟩) | (rw [qThr1_f (by unfold qVoter; omega)]; exact ⟨rfl, rfl, rfl, rfl⟩)
    · refine z_iconst eX12_isVoter_15 ?_
      refine z_goto eX12_isVoter_16 (tgt := 20) rfl ?_
      refine z_rp (j := 0) lX12_48 eX12_isVoter_20 rfl hR rfl rfl ?_
      refine z_return eX12_isVoter_23 rfl ?_
      first | (rw [qThr1_t (by unfold qVoter; omega)]; exact ⟨rfl, rfl, rfl, rfl⟩) | (rw [qThr1_f (by unfold qVoter; omega)]; exact ⟨rfl, rfl, rfl, rfl⟩)
theorem m_X12_swings {G : zG} {lay : zLay} {σ C0 : zMem} {nx x : Int} {p : Int} (hR : RefL lay x) (hM : zOK (σ 1)) (hp : zin p) : zMM G 7 KX12_swings [zP x, zI p] lay (rC x σ C0) nx (0, 0) (zR (some (zI (zif (qVoter (σ 1) p) (qSwOf (σ 1) p 256) 0))) lay (rC x (zset σ 0 0 (qThr1 (qVoter (σ 1) p))) C0) nx) := by
  refine z_met' (L := [zP x, zI p]) gX12_swings.1 rfl rfl (Nat.le_of_ble_eq_true rfl) rfl ?_
  obtain ⟨p1, p2⟩ := hp
  by_cases hv : qVoter (σ 1) p
  · rw [zif_t hv]
    have ht := qThr1_t hv
    refine z_al0 eX12_swings_0 hR.ne ?_
    refine z_il1 eX12_swings_1 ?_
    refine z_V1v eX12_swings_2 vX12_419 rfl rfl (Nat.le_of_ble_eq_true rfl) (Nat.le_of_ble_eq_true rfl) hR.x (m_X12_isVoter hR hM ⟨by omega, by omega⟩) ?_
    refine z_al0 eX12_swings_5 hR.ne ?_
    refine z_rg (j := 0) lX12_48 eX12_swings_6 rfl hR rfl rfl ?_
    rw [zset_eq, ht]
    refine z_if_le (tgt := 16) eX12_swings_9 rfl ⟨by omega, by omega⟩ (fun h9 => ?_) (fun h9 => (by exfalso; omega))
    refine z_al0 eX12_swings_16 hR.ne ?_
    refine z_il1 eX12_swings_17 ?_
    refine z_V1 eX12_swings_18 vX12_422 rfl rfl (Nat.le_of_ble_eq_true rfl) (Nat.le_of_ble_eq_true rfl) hR.x (m_X12_swingsOf hR (by rw [zset_001]; exact hM)) ?_
    refine z_ireturn eX12_swings_21 rfl ?_
    rw [zset_001]; exact ⟨rfl, rfl, rfl, rfl⟩
  · rw [zif_f hv]
    have ht := qThr1_f hv
    refine z_al0 eX12_swings_0 hR.ne ?_
    refine z_il1 eX12_swings_1 ?_
    refine z_V1v eX12_swings_2 vX12_419 rfl rfl (Nat.le_of_ble_eq_true rfl) (Nat.le_of_ble_eq_true rfl) hR.x (m_X12_isVoter hR hM ⟨by omega, by omega⟩) ?_
    refine z_al0 eX12_swings_5 hR.ne ?_
    refine z_rg (j := 0) lX12_48 eX12_swings_6 rfl hR rfl rfl ?_
    rw [zset_eq, ht]
    refine z_if_le (tgt := 16) eX12_swings_9 rfl ⟨by omega, by omega⟩ (fun h9 => (by exfalso; omega)) (fun h9 => ?_)
    refine z_iconst eX12_swings_12 ?_
    refine z_goto eX12_swings_13 (tgt := 21) rfl ?_
    refine z_ireturn eX12_swings_21 rfl ?_
    exact ⟨rfl, rfl, rfl, rfl⟩
noncomputable def qPower (M : Int → Int) (p : Int) : Int := if zsum (fun k => qSwOf M k 256) 8 = 0 then 0 else 100 * qSwOf M p 256 / zsum (fun k => qSwOf M k 256) 8
theorem m_X12_power {G : zG} {lay : zLay} {σ C0 : zMem} {nx x : Int} {p : Int} (hR : RefL lay x) (hM : zOK (σ 1)) (hp : zin p) : zMM G 7 KX12_power [zP x, zI p] lay (rC x σ C0) nx (0, 0) (zR (some (zI (zif (qVoter (σ 1) p) (qPower (σ 1) p) 0))) lay (rC x (zset σ 0 0 (qThr1 (qVoter (σ 1) p))) C0) nx) := by
  refine z_met' (L := [zP x, zI p, zU, zU]) gX12_power.1 rfl rfl (Nat.le_of_ble_eq_true rfl) rfl ?_
  obtain ⟨p1, p2⟩ := hp
  by_cases hv : qVoter (σ 1) p
  · rw [zif_t hv, qThr1_t hv]
    obtain ⟨S, hS, hS1⟩ : ∃ S, zset σ 0 0 0 = S ∧ S 1 = σ 1 := ⟨_, rfl, zset_001⟩
    rw [hS]
    have hMS : zOK (S 1) := by rw [hS1]; exact hM
    have hb := zsum_bnd (f := fun k => qSwOf (σ 1) k 256) (c := 256) (n := 8) (by decide) (fun k _ _ => by have := qSwOf_bd (σ 1) k (n := 256) (by decide); omega)
    have hb2 := qSwOf_bd (σ 1) p (n := 256) (by decide)
    have hl : ∀ t : Int, 0 ≤ t → t ≤ 8 → zW G KX12_power 7 (zR (some (zI (qPower (σ 1) p))) lay (rC x S C0) nx) 18 [zP x, zI p, zI (zsum (fun k => qSwOf (σ 1) k 256) t), zI t] [] lay (rC x S C0) nx (0, 0) := by
      refine z_up 8 ?_ ?_
      · unfold qPower
        refine z_il3 eX12_power_18 ?_
        refine z_bipush eX12_power_19 (by decide) ?_
        refine z_icmp_ge (tgt := 38) eX12_power_21 rfl ⟨⟨by omega, by omega⟩, ⟨by omega, by omega⟩⟩ (fun h21 => ?_) (fun h21 => (by exfalso; omega))
        refine z_il2 eX12_power_38 ?_
        refine z_if_ne (tgt := 46) eX12_power_39 rfl ⟨by omega, by omega⟩ (fun h39 => ?_) (fun h39 => ?_)
        · refine z_bipush eX12_power_46 (by decide) ?_
          refine z_al0 eX12_power_48 hR.ne ?_
          refine z_il1 eX12_power_49 ?_
          refine z_V1 eX12_power_50 vX12_422 rfl rfl (Nat.le_of_ble_eq_true rfl) (Nat.le_of_ble_eq_true rfl) hR.x (m_X12_swingsOf hR hMS) ?_
          rw [hS1]
          refine z_imul eX12_power_53 ?_
          refine z_il2 eX12_power_54 ?_
          refine z_idiv eX12_power_55 ⟨by omega, by omega, by omega, by omega⟩ ?_
          refine z_ireturn eX12_power_56 rfl ?_
          first | (rw [if_pos h39]; exact ⟨rfl, rfl, rfl, rfl⟩) | (rw [if_neg h39]; exact ⟨rfl, rfl, rfl, rfl⟩)
        · refine z_iconst eX12_power_42 ?_
          refine z_goto eX12_power_43 (tgt := 56) rfl ?_
          refine z_ireturn eX12_power_56 rfl ?_
          first | (rw [if_pos h39]; exact ⟨rfl, rfl, rfl, rfl⟩) | (rw [if_neg h39]; exact ⟨rfl, rfl, rfl, rfl⟩)
      · intro t t0 t1 ih
        rw [zsum_s _ t0] at ih
        refine z_il3 eX12_power_18 ?_
        refine z_bipush eX12_power_19 (by decide) ?_
        refine z_icmp_ge (tgt := 38) eX12_power_21 rfl ⟨⟨by omega, by omega⟩, ⟨by omega, by omega⟩⟩ (fun h21 => (by exfalso; omega)) (fun h21 => ?_)
        refine z_il2 eX12_power_24 ?_
        refine z_al0 eX12_power_25 hR.ne ?_
        refine z_il3 eX12_power_26 ?_
        refine z_V1 eX12_power_27 vX12_422 rfl rfl (Nat.le_of_ble_eq_true rfl) (Nat.le_of_ble_eq_true rfl) hR.x (m_X12_swingsOf hR hMS) ?_
        rw [hS1]
        refine z_iadd eX12_power_30 ?_
        refine z_is2 eX12_power_31 (Nat.ne_of_beq_eq_false rfl) ?_
        refine z_ii3 eX12_power_32 (Nat.ne_of_beq_eq_false rfl) ?_
        refine z_goto eX12_power_35 (tgt := 18) rfl ?_
        exact ih
    refine z_al0 eX12_power_0 hR.ne ?_
    refine z_il1 eX12_power_1 ?_
    refine z_V1v eX12_power_2 vX12_419 rfl rfl (Nat.le_of_ble_eq_true rfl) (Nat.le_of_ble_eq_true rfl) hR.x (m_X12_isVoter hR hM ⟨by omega, by omega⟩) ?_
    rw [qThr1_t hv, hS]
    refine z_al0 eX12_power_5 hR.ne ?_
    refine z_rg (j := 0) lX12_48 eX12_power_6 rfl hR rfl rfl ?_
    rw [← hS, zset_eq, hS]
    refine z_if_le (tgt := 14) eX12_power_9 rfl ⟨by omega, by omega⟩ (fun h9 => ?_) (fun h9 => (by exfalso; omega))
    refine z_iconst eX12_power_14 ?_
    refine z_is2 eX12_power_15 (Nat.ne_of_beq_eq_false rfl) ?_
    refine z_iconst eX12_power_16 ?_
    refine z_is3 eX12_power_17 (Nat.ne_of_beq_eq_false rfl) ?_
    exact hl 0 (by decide) (by decide)
  · rw [zif_f hv]
    have ht := qThr1_f hv
    refine z_al0 eX12_power_0 hR.ne ?_
    refine z_il1 eX12_power_1 ?_
    refine z_V1v eX12_power_2 vX12_419 rfl rfl (Nat.le_of_ble_eq_true rfl) (Nat.le_of_ble_eq_true rfl) hR.x (m_X12_isVoter hR hM ⟨by omega, by omega⟩) ?_
    refine z_al0 eX12_power_5 hR.ne ?_
    refine z_rg (j := 0) lX12_48 eX12_power_6 rfl hR rfl rfl ?_
    rw [zset_eq, ht]
    refine z_if_le (tgt := 14) eX12_power_9 rfl ⟨by omega, by omega⟩ (fun h9 => (by exfalso; omega)) (fun h9 => ?_)
    refine z_iconst eX12_power_12 ?_
    refine z_ireturn eX12_power_13 rfl ?_
    exact ⟨rfl, rfl, rfl, rfl⟩
def qLeast (M : Int → Int) (side n : Int) : Prop := qWins M side ∧ ∀ p, 0 ≤ p → p < n → zbit side p = 1 → qSwings M side p
theorem m_X12_isLeast {G : zG} {lay : zLay} {σ C0 : zMem} {nx x : Int} {side : Int} (hR : RefL lay x) (hM : zOK (σ 1)) : zMM G 6 KX12_isLeast [zP x, zI side] lay (rC x σ C0) nx (0, 0) (zR (some (zI (zbi (qLeast (σ 1) side 8)))) lay (rC x (σ) C0) nx) := by
  refine z_met' (L := [zP x, zI side, zU, zU]) gX12_isLeast.1 rfl rfl (Nat.le_of_ble_eq_true rfl) rfl ?_
  have w47 : ∀ (g i : Int) (p : Prop), g = zbi p → (p ↔ qLeast (σ 1) side 8) → zW G KX12_isLeast 6 (zR (some (zI (zbi (qLeast (σ 1) side 8)))) lay (rC x σ C0) nx) 47 [zP x, zI side, zI g, zI i] [] lay (rC x σ C0) nx (0, 0) := by
    intro g i p hg hp
    subst hg
    refine z_il2 eX12_isLeast_47 ?_
    refine z_zreturn eX12_isLeast_48 rfl (by first | exact Or.inl rfl | exact Or.inr rfl | exact zbi_01 _ | assumption | omega) ?_
    rw [zbi_iff hp]; exact ⟨rfl, rfl, rfl, rfl⟩
  have w8 : ∀ i : Int, 0 ≤ i → i ≤ 8 → ∀ g : Int, g = zbi (qLeast (σ 1) side i) → zW G KX12_isLeast 6 (zR (some (zI (zbi (qLeast (σ 1) side 8)))) lay (rC x σ C0) nx) 8 [zP x, zI side, zI g, zI i] [] lay (rC x σ C0) nx (0, 0) := by
    refine z_up 8 ?_ ?_
    · intro g hg
      refine z_il3 eX12_isLeast_8 ?_
      refine z_bipush eX12_isLeast_9 (by decide) ?_
      refine z_icmp_ge (tgt := 47) eX12_isLeast_11 rfl ⟨⟨by omega, by omega⟩, ⟨by omega, by omega⟩⟩ (fun h11 => ?_) (fun h11 => (by exfalso; omega))
      exact w47 _ _ _ hg Iff.rfl
    · intro i i0 i1 ih g hg
      by_cases hpp : qLeast (σ 1) side i
      · have hg1 : g = 1 := by rw [hg, zbi_t hpp]
        have hs : qLeast (σ 1) side (i + 1) ↔ (zbit side i = 1 → qSwings (σ 1) side i) := ⟨fun z => z.2 i i0 (by omega), fun z => ⟨hpp.1, fun j j0 j1 j2 => (show j < i ∨ j = i by omega).elim (fun e => hpp.2 j j0 e j2) (fun e => by rw [e]; exact z (by rw [← e]; exact j2))⟩⟩
        refine z_il3 eX12_isLeast_8 ?_
        refine z_bipush eX12_isLeast_9 (by decide) ?_
        refine z_icmp_ge (tgt := 47) eX12_isLeast_11 rfl ⟨⟨by omega, by omega⟩, ⟨by omega, by omega⟩⟩ (fun h11 => (by exfalso; omega)) (fun h11 => ?_)
        refine z_il2 eX12_isLeast_14 ?_
        refine z_if_eq (tgt := 47) eX12_isLeast_15 rfl ⟨by omega, by omega⟩ (fun h15 => (by exfalso; omega)) (fun h15 => ?_)
        refine z_il1 eX12_isLeast_18 ?_
        refine z_il3 eX12_isLeast_19 ?_
        refine z_S2 eX12_isLeast_20 vX12_290 rfl rfl (Nat.le_of_ble_eq_true rfl) (Nat.le_of_ble_eq_true rfl) (m_X12_isOf ) ?_
        refine z_ifb_eq (tgt := 35) eX12_isLeast_23 rfl (fun h23 => ?_) (fun h23 => ?_)
        · refine z_iconst eX12_isLeast_35 ?_
          refine z_goto eX12_isLeast_36 (tgt := 40) rfl ?_
          refine z_is2 eX12_isLeast_40 (Nat.ne_of_beq_eq_false rfl) ?_
          refine z_ii3 eX12_isLeast_41 (Nat.ne_of_beq_eq_false rfl) ?_
          refine z_goto eX12_isLeast_44 (tgt := 8) rfl ?_
          first | (have e2 := h32; first | exact ih _ (zbi_t (hs.mpr (fun _ => e2))).symm | exact ih _ (zbi_f (fun z => e2 (hs.mp z h23))).symm) | exact ih _ (zbi_t (hs.mpr (fun z => absurd z h23))).symm | fail
        · refine z_al0 eX12_isLeast_26 hR.ne ?_
          refine z_il1 eX12_isLeast_27 ?_
          refine z_il3 eX12_isLeast_28 ?_
          refine z_V2 eX12_isLeast_29 vX12_416 rfl rfl (Nat.le_of_ble_eq_true rfl) (Nat.le_of_ble_eq_true rfl) hR.x (m_X12_swingsBy hR hM) ?_
          refine z_ifb_eq (tgt := 39) eX12_isLeast_32 rfl (fun h32 => ?_) (fun h32 => ?_)
          · refine z_iconst eX12_isLeast_39 ?_
            refine z_is2 eX12_isLeast_40 (Nat.ne_of_beq_eq_false rfl) ?_
            refine z_ii3 eX12_isLeast_41 (Nat.ne_of_beq_eq_false rfl) ?_
            refine z_goto eX12_isLeast_44 (tgt := 8) rfl ?_
            first | (have e2 := h32; first | exact ih _ (zbi_t (hs.mpr (fun _ => e2))).symm | exact ih _ (zbi_f (fun z => e2 (hs.mp z h23))).symm) | exact ih _ (zbi_t (hs.mpr (fun z => absurd z h23))).symm | fail
          · refine z_iconst eX12_isLeast_35 ?_
            refine z_goto eX12_isLeast_36 (tgt := 40) rfl ?_
            refine z_is2 eX12_isLeast_40 (Nat.ne_of_beq_eq_false rfl) ?_
            refine z_ii3 eX12_isLeast_41 (Nat.ne_of_beq_eq_false rfl) ?_
            refine z_goto eX12_isLeast_44 (tgt := 8) rfl ?_
            first | (have e2 := h32; first | exact ih _ (zbi_t (hs.mpr (fun _ => e2))).symm | exact ih _ (zbi_f (fun z => e2 (hs.mp z h23))).symm) | exact ih _ (zbi_t (hs.mpr (fun z => absurd z h23))).symm | fail
      · have hg0 : g = 0 := by rw [hg, zbi_f hpp]
        refine z_il3 eX12_isLeast_8 ?_
        refine z_bipush eX12_isLeast_9 (by decide) ?_
        refine z_icmp_ge (tgt := 47) eX12_isLeast_11 rfl ⟨⟨by omega, by omega⟩, ⟨by omega, by omega⟩⟩ (fun h11 => (by exfalso; omega)) (fun h11 => ?_)
        refine z_il2 eX12_isLeast_14 ?_
        refine z_if_eq (tgt := 47) eX12_isLeast_15 rfl ⟨by omega, by omega⟩ (fun h15 => ?_) (fun h15 => (by exfalso; omega))
        exact w47 _ _ _ hg ⟨fun z => absurd z hpp, fun z => absurd ⟨z.1, fun j j0 j1 j2 => z.2 j j0 (by omega) j2⟩ hpp⟩
  refine z_al0 eX12_isLeast_0 hR.ne ?_
  refine z_il1 eX12_isLeast_1 ?_
  refine z_V1 eX12_isLeast_2 vX12_413 rfl rfl (Nat.le_of_ble_eq_true rfl) (Nat.le_of_ble_eq_true rfl) hR.x (m_X12_winsBy hR hM) ?_
  refine z_is2 eX12_isLeast_5 (Nat.ne_of_beq_eq_false rfl) ?_
  refine z_iconst eX12_isLeast_6 ?_
  refine z_is3 eX12_isLeast_7 (Nat.ne_of_beq_eq_false rfl) ?_
  exact w8 0 (by decide) (by decide) _ (zbi_iff ⟨fun z => ⟨z, fun j j0 j1 => by omega⟩, fun z => z.1⟩)
noncomputable def qMinimal (M : Int → Int) (n : Int) : Int := zsum (fun side => zbi (zand side (zxor (qVoters M) (-1)) = 0 ∧ qLeast M side 8)) n
theorem m_X12_minimal {G : zG} {lay : zLay} {σ C0 : zMem} {nx x : Int} (hR : RefL lay x) (hM : zOK (σ 1)) : zMM G 7 KX12_minimal [zP x] lay (rC x σ C0) nx (0, 0) (zR (some (zI (qMinimal (σ 1) 256))) lay (rC x (zset σ 0 0 0) C0) nx) := by
  refine z_met' (L := [zP x, zU, zU]) gX12_minimal.1 rfl rfl (Nat.le_of_ble_eq_true rfl) rfl ?_
  generalize hS : zset σ 0 0 0 = S
  have hS1 : S 1 = σ 1 := by rw [← hS]; exact zset_001
  have hMS : zOK (S 1) := by rw [hS1]; exact hM
  have hl : ∀ t : Int, 0 ≤ t → t ≤ 256 → zW G KX12_minimal 7 (zR (some (zI (qMinimal (σ 1) 256))) lay (rC x S C0) nx) 9 [zP x, zI (qMinimal (σ 1) t), zI t] [] lay (rC x S C0) nx (0, 0) := by
    refine z_up 256 ?_ ?_
    · skip
      refine z_il2 eX12_minimal_9 ?_
      refine z_sipush eX12_minimal_10 (by decide) ?_
      refine z_icmp_ge (tgt := 49) eX12_minimal_13 rfl ⟨⟨by omega, by omega⟩, ⟨by omega, by omega⟩⟩ (fun h13 => ?_) (fun h13 => (by exfalso; omega))
      refine z_il1 eX12_minimal_49 ?_
      refine z_ireturn eX12_minimal_50 rfl ?_
      first | exact ⟨rfl, rfl, rfl, rfl⟩ | exact zRb1 (by omega) | exact zRb0 (by omega) | exact zRe (by omega)
    · intro t t0 t1 ih
      have e : qMinimal (σ 1) (t + 1) = qMinimal (σ 1) t + zbi (zand t (zxor (qVoters (σ 1)) (-1)) = 0 ∧ qLeast (σ 1) t 8) := zsum_s _ t0
      rw [e] at ih
      have hza := zand_in t (zxor (qVoters (σ 1)) (-1))
      refine z_il2 eX12_minimal_9 ?_
      refine z_sipush eX12_minimal_10 (by decide) ?_
      refine z_icmp_ge (tgt := 49) eX12_minimal_13 rfl ⟨⟨by omega, by omega⟩, ⟨by omega, by omega⟩⟩ (fun h13 => (by exfalso; omega)) (fun h13 => ?_)
      refine z_il1 eX12_minimal_16 ?_
      refine z_il2 eX12_minimal_17 ?_
      refine z_al0 eX12_minimal_18 hR.ne ?_
      refine z_V0 eX12_minimal_19 vX12_410 rfl rfl (Nat.le_of_ble_eq_true rfl) (Nat.le_of_ble_eq_true rfl) hR.x (m_X12_voters hR hMS) ?_
      try rw [hS1]
      refine z_iconst eX12_minimal_22 ?_
      refine z_ixor eX12_minimal_23 ?_
      refine z_iand eX12_minimal_24 ?_
      refine z_if_ne (tgt := 40) eX12_minimal_25 rfl hza (fun h25 => ?_) (fun h25 => ?_)
      · refine z_iconst eX12_minimal_40 ?_
        refine z_iadd eX12_minimal_41 ?_
        refine z_is1 eX12_minimal_42 (Nat.ne_of_beq_eq_false rfl) ?_
        refine z_ii2 eX12_minimal_43 (Nat.ne_of_beq_eq_false rfl) ?_
        refine z_goto eX12_minimal_46 (tgt := 9) rfl ?_
        first | (have e2 := h33; first | (rw [zbi_t ⟨h25, e2⟩] at ih; exact ih) | (rw [zbi_f (fun z => e2 z.2)] at ih; exact ih)) | (rw [zbi_f (fun z => h25 z.1)] at ih; exact ih) | fail
      · refine z_al0 eX12_minimal_28 hR.ne ?_
        refine z_il2 eX12_minimal_29 ?_
        refine z_V1 eX12_minimal_30 vX12_425 rfl rfl (Nat.le_of_ble_eq_true rfl) (Nat.le_of_ble_eq_true rfl) hR.x (m_X12_isLeast hR hMS) ?_
        try rw [hS1]
        refine z_ifb_eq (tgt := 40) eX12_minimal_33 rfl (fun h33 => ?_) (fun h33 => ?_)
        · refine z_iconst eX12_minimal_40 ?_
          refine z_iadd eX12_minimal_41 ?_
          refine z_is1 eX12_minimal_42 (Nat.ne_of_beq_eq_false rfl) ?_
          refine z_ii2 eX12_minimal_43 (Nat.ne_of_beq_eq_false rfl) ?_
          refine z_goto eX12_minimal_46 (tgt := 9) rfl ?_
          first | (have e2 := h33; first | (rw [zbi_t ⟨h25, e2⟩] at ih; exact ih) | (rw [zbi_f (fun z => e2 z.2)] at ih; exact ih)) | (rw [zbi_f (fun z => h25 z.1)] at ih; exact ih) | fail
        · refine z_iconst eX12_minimal_36 ?_
          refine z_goto eX12_minimal_37 (tgt := 41) rfl ?_
          refine z_iadd eX12_minimal_41 ?_
          refine z_is1 eX12_minimal_42 (Nat.ne_of_beq_eq_false rfl) ?_
          refine z_ii2 eX12_minimal_43 (Nat.ne_of_beq_eq_false rfl) ?_
          refine z_goto eX12_minimal_46 (tgt := 9) rfl ?_
          first | (have e2 := h33; first | (rw [zbi_t ⟨h25, e2⟩] at ih; exact ih) | (rw [zbi_f (fun z => e2 z.2)] at ih; exact ih)) | (rw [zbi_f (fun z => h25 z.1)] at ih; exact ih) | fail
  refine z_al0 eX12_minimal_0 hR.ne ?_
  refine z_iconst eX12_minimal_1 ?_
  refine z_rp (j := 0) lX12_48 eX12_minimal_2 rfl hR rfl rfl ?_
  rw [hS]
  refine z_iconst eX12_minimal_5 ?_
  refine z_is1 eX12_minimal_6 (Nat.ne_of_beq_eq_false rfl) ?_
  refine z_iconst eX12_minimal_7 ?_
  refine z_is2 eX12_minimal_8 (Nat.ne_of_beq_eq_false rfl) ?_
  exact hl 0 (by decide) (by decide)
theorem m_X12_leader {G : zG} {lay : zLay} {σ C0 : zMem} {nx x : Int} (hR : RefL lay x) (hM : zOK (σ 1)) : zMM G 7 KX12_leader [zP x] lay (rC x σ C0) nx (0, 0) (zR (some (zI (qMax (fun p => qSwOf (σ 1) p 256) (-1) 0 8).1)) lay (rC x (zset σ 0 0 0) C0) nx) := by
  refine z_met' (L := [zP x, zU, zU, zU, zU]) gX12_leader.1 rfl rfl (Nat.le_of_ble_eq_true rfl) rfl ?_
  generalize hS : zset σ 0 0 0 = S
  have hS1 : S 1 = σ 1 := by rw [← hS]; exact zset_001
  have hMS : zOK (S 1) := by rw [hS1]; exact hM
  have hl : ∀ t : Int, 0 ≤ t → t ≤ 8 → ∀ y : zAV, zW G KX12_leader 7 (zR (some (zI (qMax (fun p => qSwOf (σ 1) p 256) (-1) 0 8).1)) lay (rC x S C0) nx) 11 [zP x, zI (qMax (fun p => qSwOf (σ 1) p 256) (-1) 0 t).1, zI (qMax (fun p => qSwOf (σ 1) p 256) (-1) 0 t).2, zI t, y] [] lay (rC x S C0) nx (0, 0) := by
    refine z_up 8 ?_ ?_
    · intro y
      refine z_il3 eX12_leader_11 ?_
      refine z_bipush eX12_leader_12 (by decide) ?_
      refine z_icmp_ge (tgt := 44) eX12_leader_14 rfl ⟨⟨by omega, by omega⟩, ⟨by omega, by omega⟩⟩ (fun h14 => ?_) (fun h14 => (by exfalso; omega))
      refine z_il1 eX12_leader_44 ?_
      refine z_ireturn eX12_leader_45 rfl ?_
      first | exact ⟨rfl, rfl, rfl, rfl⟩ | exact zRb1 (by omega) | exact zRb0 (by omega) | exact zRe (by omega)
    · intro t t0 t1 ih y
      have hb := qSwOf_bd (σ 1) t (n := 256) (by decide)
      have hq := qMax_bd (f := fun p => qSwOf (σ 1) p 256) (f0 := -1) (m0 := 0) (c := 256) (by decide) t t0 (fun j _ _ => by have := qSwOf_bd (σ 1) j (n := 256) (by decide); omega)
      rw [qMax_s _ _ _ t0] at ih
      generalize qMax (fun p => qSwOf (σ 1) p 256) (-1) 0 t = r at ih hq ⊢
      refine z_il3 eX12_leader_11 ?_
      refine z_bipush eX12_leader_12 (by decide) ?_
      refine z_icmp_ge (tgt := 44) eX12_leader_14 rfl ⟨⟨by omega, by omega⟩, ⟨by omega, by omega⟩⟩ (fun h14 => (by exfalso; omega)) (fun h14 => ?_)
      refine z_al0 eX12_leader_17 hR.ne ?_
      refine z_il3 eX12_leader_18 ?_
      refine z_V1 eX12_leader_19 vX12_422 rfl rfl (Nat.le_of_ble_eq_true rfl) (Nat.le_of_ble_eq_true rfl) hR.x (m_X12_swingsOf hR hMS) ?_
      try rw [hS1]
      refine z_is4 eX12_leader_22 (Nat.ne_of_beq_eq_false rfl) ?_
      refine z_il4 eX12_leader_24 ?_
      refine z_il2 eX12_leader_26 ?_
      refine z_icmp_gt (tgt := 33) eX12_leader_27 rfl ⟨⟨by omega, by omega⟩, ⟨by omega, by omega⟩⟩ (fun h27 => ?_) (fun h27 => ?_)
      · refine z_il4 eX12_leader_33 ?_
        refine z_is2 eX12_leader_35 (Nat.ne_of_beq_eq_false rfl) ?_
        refine z_il3 eX12_leader_36 ?_
        refine z_is1 eX12_leader_37 (Nat.ne_of_beq_eq_false rfl) ?_
        refine z_ii3 eX12_leader_38 (Nat.ne_of_beq_eq_false rfl) ?_
        refine z_goto eX12_leader_41 (tgt := 11) rfl ?_
        first | (rw [if_pos (by omega)] at ih; exact ih _) | (rw [if_neg (by omega)] at ih; exact ih _) | fail
      · refine z_goto eX12_leader_30 (tgt := 38) rfl ?_
        refine z_ii3 eX12_leader_38 (Nat.ne_of_beq_eq_false rfl) ?_
        refine z_goto eX12_leader_41 (tgt := 11) rfl ?_
        first | (rw [if_pos (by omega)] at ih; exact ih _) | (rw [if_neg (by omega)] at ih; exact ih _) | fail
  refine z_al0 eX12_leader_0 hR.ne ?_
  refine z_iconst eX12_leader_1 ?_
  refine z_rp (j := 0) lX12_48 eX12_leader_2 rfl hR rfl rfl ?_
  rw [hS]
  refine z_iconst eX12_leader_5 ?_
  refine z_is1 eX12_leader_6 (Nat.ne_of_beq_eq_false rfl) ?_
  refine z_iconst eX12_leader_7 ?_
  refine z_is2 eX12_leader_8 (Nat.ne_of_beq_eq_false rfl) ?_
  refine z_iconst eX12_leader_9 ?_
  refine z_is3 eX12_leader_10 (Nat.ne_of_beq_eq_false rfl) ?_
  exact hl 0 (by decide) (by decide) _
