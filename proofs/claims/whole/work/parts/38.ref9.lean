/-! A sky's line, and any line of the coast. -/
def qSky5 (T : Int → Int) (M : Int → Int) (s from9 n : Int) : Int → Int := zfold (fun t N => zput N (13 + 5 * s + t) (T (from9 + t) - 48)) M n
noncomputable def qSkyLine (T : Int → Int) (e : Int) (M : Int → Int) (a f : Int) : qLn :=
  let r := qSky T e a f
  let w := qRow T e 5 9 r.2.1 r.2.2
  let g := if w.2.2 = -1 ∧ zsum (fun t => T (w.1 + t) - 48) 5 = 0 then w.1 else w.2.2
  (if g = -1 then qSky5 T M r.1 w.1 5 else M, w.2.1, g)
theorem p_X12_skyLine {G : zG} {lay : zLay} {σ C0 : zMem} {nx x a f : Int} (hR : RefL lay x) (hS : TxS lay C0) (hT : TxI σ) (hB : σ 0 9 = -1) (ha : qAt (σ 0 10) a f) : zMM G 8 KX12_skyLine [zP x] lay (rC x (pS σ a f) C0) nx (0, 0) (zR none lay (rC x (pS (zM σ (qSkyLine (rT σ) (σ 0 10) (σ 1) a f).1) (qSkyLine (rT σ) (σ 0 10) (σ 1) a f).2.1 (qSkyLine (rT σ) (σ 0 10) (σ 1) a f).2.2) C0) nx) := by
  refine z_met' (L := [zP x, zU, zU, zU, zU]) gX12_skyLine.1 rfl rfl (Nat.le_of_ble_eq_true rfl) rfl ?_
  have h10 : σ 0 10 ≤ 400 := hT.2.2.1
  have hr := qSky_bd (T := rT σ) ha h10
  dsimp only [qSkyLine]
  generalize hq : qSky (rT σ) (σ 0 10) a f = r at hr ⊢
  have hr0 := hr.1
  obtain ⟨⟨r1, r2, r3, r4⟩, r5, r6, r7⟩ := hr
  have hw := qRow_bd (T := rT σ) (many := 5) (most := 9) hr0 h10 (by decide)
  generalize hp : qRow (rT σ) (σ 0 10) 5 9 r.2.1 r.2.2 = w at hw ⊢
  obtain ⟨⟨w1, w2, w3, w4⟩, w5, w6, w7⟩ := hw
  have hsb : ∀ n : Nat, w.2.2 = -1 → 0 ≤ w.1 → w.1 + n ≤ 400 → -48 * n ≤ zsum (fun t => rT σ (w.1 + t) - 48) n ∧ zsum (fun t => rT σ (w.1 + t) - 48) n ≤ 300 * n := by
    intro n z1 z2
    induction n with
    | zero => intro _; rw [show ((0 : Nat) : Int) = 0 from rfl, zsum_0]; omega
    | succ n ih =>
      intro z3
      have z4 := ih (by omega)
      have z5 := hT.2.2.2 (w.1 + n) (by omega) (by omega)
      rw [show ((n + 1 : Nat) : Int) = (n : Int) + 1 by omega, zsum_s _ (by omega)]
      omega
  have wE : ∀ (u v : Int), w.2.2 = -1 → zW G KX12_skyLine 8 (zR none lay (rC x (pS (zM σ (qSky5 (rT σ) (σ 1) r.1 w.1 5)) w.2.1 w.2.2) C0) nx) 78 [zP x, zI r.1, zI w.1, zI u, zI v] [] lay (rC x (pS σ w.2.1 w.2.2) C0) nx (0, 0) := by
    intro u v hf
    have w8 := (w5 hf).2.2.2
    have hn : ∀ n : Int, 0 ≤ n → n ≤ 5 → zW G KX12_skyLine 8 (zR none lay (rC x (pS (zM σ (qSky5 (rT σ) (σ 1) r.1 w.1 5)) w.2.1 w.2.2) C0) nx) 81 [zP x, zI r.1, zI w.1, zI u, zI n] [] lay (rC x (pS (zM σ (qSky5 (rT σ) (σ 1) r.1 w.1 n)) w.2.1 w.2.2) C0) nx (0, 0) := by
      refine z_up 5 ?_ ?_
      · skip
        refine z_il4 eX12_skyLine_81 ?_
        refine z_iconst eX12_skyLine_83 ?_
        refine z_icmp_ge (tgt := 118) eX12_skyLine_84 rfl ⟨⟨by omega, by omega⟩, ⟨by omega, by omega⟩⟩ (fun h84 => ?_) (fun h84 => (by exfalso; omega))
        refine z_return eX12_skyLine_118 rfl ?_
        exact ⟨rfl, rfl, rfl, rfl⟩
      · intro n h0 h1 ih
        refine z_il4 eX12_skyLine_81 ?_
        refine z_iconst eX12_skyLine_83 ?_
        refine z_icmp_ge (tgt := 118) eX12_skyLine_84 rfl ⟨⟨by omega, by omega⟩, ⟨by omega, by omega⟩⟩ (fun h84 => (by exfalso; omega)) (fun h84 => ?_)
        refine z_al0 eX12_skyLine_87 hR.ne ?_
        refine z_ra lX12_7 eX12_skyLine_88 rfl hR rfl ?_
        refine z_bipush eX12_skyLine_91 (by decide) ?_
        refine z_iconst eX12_skyLine_93 ?_
        refine z_il1 eX12_skyLine_94 ?_
        refine z_imul eX12_skyLine_95 ?_
        refine z_iadd eX12_skyLine_96 ?_
        refine z_il4 eX12_skyLine_97 ?_
        refine z_iadd eX12_skyLine_99 ?_
        refine z_al0 eX12_skyLine_100 hR.ne ?_
        refine z_il2 eX12_skyLine_101 ?_
        refine z_il4 eX12_skyLine_102 ?_
        refine z_iadd eX12_skyLine_104 ?_
        refine z_V1 eX12_skyLine_105 vX12_77 rfl rfl (Nat.le_of_ble_eq_true rfl) (Nat.le_of_ble_eq_true rfl) hR.x (p_X12_letter hR (zM_T hT hB).1 ⟨by omega, by omega⟩) ?_
        rw [(zM_T hT hB).2.1]
        refine z_bipush eX12_skyLine_108 (by decide) ?_
        refine z_isub eX12_skyLine_110 ?_
        refine z_rs eX12_skyLine_111 hR (by decide) rfl rfl ⟨by omega, by omega⟩ ?_
        first | rw [pS_sM] | rw [pS_s1] | skip
        refine z_ii4 eX12_skyLine_112 (Nat.ne_of_beq_eq_false rfl) ?_
        refine z_goto eX12_skyLine_115 (tgt := 81) rfl ?_
        unfold qSky5 at ih ⊢
        rw [zfold_s _ _ h0] at ih
        exact ih
    have h0 := hn 0 (by omega) (by omega)
    rw [show qSky5 (rT σ) (σ 1) r.1 w.1 0 = σ 1 from rfl, zM_self] at h0
    refine z_iconst eX12_skyLine_78 ?_
    refine z_is4 eX12_skyLine_79 (Nat.ne_of_beq_eq_false rfl) ?_
    exact h0
  generalize hg : (if w.2.2 = -1 ∧ zsum (fun t => rT σ (w.1 + t) - 48) 5 = 0 then w.1 else w.2.2) = g
  have hb5 := hsb 5
  rw [show ((5 : Nat) : Int) = 5 from rfl] at hb5
  by_cases hf : w.2.2 = -1
  · have w8 := (w5 hf).2.2.2
    have hb6 := hb5 hf w6 (by omega)
    have hn : ∀ n : Int, 0 ≤ n → n ≤ 5 → zW G KX12_skyLine 8 (zR none lay (rC x (pS (zM σ (if g = -1 then qSky5 (rT σ) (σ 1) r.1 w.1 5 else σ 1)) w.2.1 g) C0) nx) 18 [zP x, zI r.1, zI w.1, zI (zsum (fun t => rT σ (w.1 + t) - 48) n), zI n] [] lay (rC x (pS σ w.2.1 w.2.2) C0) nx (0, 0) := by
      refine z_up 5 ?_ ?_
      · by_cases hz : zsum (fun t => rT σ (w.1 + t) - 48) 5 = 0
        · rw [if_pos ⟨hf, hz⟩] at hg
          subst hg
          rw [if_neg (by omega), zM_self]
          refine z_il4 eX12_skyLine_18 ?_
          refine z_iconst eX12_skyLine_20 ?_
          refine z_icmp_ge (tgt := 52) eX12_skyLine_21 rfl ⟨⟨by omega, by omega⟩, ⟨by omega, by omega⟩⟩ (fun h21 => ?_) (fun h21 => (by exfalso; omega))
          refine z_al0 eX12_skyLine_52 hR.ne ?_
          refine z_rg (j := 12) lX12_25 eX12_skyLine_53 rfl hR rfl rfl ?_
          rw [pS_12]
          refine z_iconst eX12_skyLine_56 ?_
          refine z_icmp_ne (tgt := 69) eX12_skyLine_57 rfl ⟨⟨by omega, by omega⟩, ⟨by omega, by omega⟩⟩ (fun h57 => (by exfalso; omega)) (fun h57 => ?_)
          refine z_il3 eX12_skyLine_60 ?_
          refine z_if_ne (tgt := 69) eX12_skyLine_61 rfl ⟨by omega, by omega⟩ (fun h61 => (by exfalso; omega)) (fun h61 => ?_)
          refine z_al0 eX12_skyLine_64 hR.ne ?_
          refine z_il2 eX12_skyLine_65 ?_
          refine z_V1v eX12_skyLine_66 vX12_97 rfl rfl (Nat.le_of_ble_eq_true rfl) (Nat.le_of_ble_eq_true rfl) hR.x (p_X12_wrong hR ⟨by omega, by omega⟩) ?_
          simp only [if_pos hf]
          refine z_al0 eX12_skyLine_69 hR.ne ?_
          refine z_rg (j := 12) lX12_25 eX12_skyLine_70 rfl hR rfl rfl ?_
          rw [pS_12]
          refine z_iconst eX12_skyLine_73 ?_
          refine z_icmp_eq (tgt := 78) eX12_skyLine_74 rfl ⟨⟨by omega, by omega⟩, ⟨by omega, by omega⟩⟩ (fun h74 => (by exfalso; omega)) (fun h74 => ?_)
          refine z_return eX12_skyLine_77 rfl ?_
          exact ⟨rfl, rfl, rfl, rfl⟩
        · rw [if_neg (fun q => hz q.2)] at hg
          subst hg
          rw [if_pos hf]
          refine z_il4 eX12_skyLine_18 ?_
          refine z_iconst eX12_skyLine_20 ?_
          refine z_icmp_ge (tgt := 52) eX12_skyLine_21 rfl ⟨⟨by omega, by omega⟩, ⟨by omega, by omega⟩⟩ (fun h21 => ?_) (fun h21 => (by exfalso; omega))
          refine z_al0 eX12_skyLine_52 hR.ne ?_
          refine z_rg (j := 12) lX12_25 eX12_skyLine_53 rfl hR rfl rfl ?_
          rw [pS_12]
          refine z_iconst eX12_skyLine_56 ?_
          refine z_icmp_ne (tgt := 69) eX12_skyLine_57 rfl ⟨⟨by omega, by omega⟩, ⟨by omega, by omega⟩⟩ (fun h57 => (by exfalso; omega)) (fun h57 => ?_)
          refine z_il3 eX12_skyLine_60 ?_
          refine z_if_ne (tgt := 69) eX12_skyLine_61 rfl ⟨by omega, by omega⟩ (fun h61 => ?_) (fun h61 => absurd h61 hz)
          refine z_al0 eX12_skyLine_69 hR.ne ?_
          refine z_rg (j := 12) lX12_25 eX12_skyLine_70 rfl hR rfl rfl ?_
          rw [pS_12]
          refine z_iconst eX12_skyLine_73 ?_
          refine z_icmp_eq (tgt := 78) eX12_skyLine_74 rfl ⟨⟨by omega, by omega⟩, ⟨by omega, by omega⟩⟩ (fun h74 => ?_) (fun h74 => (by exfalso; omega))
          exact wE _ _ hf
      · intro n h0 h1 ih
        refine z_il4 eX12_skyLine_18 ?_
        refine z_iconst eX12_skyLine_20 ?_
        refine z_icmp_ge (tgt := 52) eX12_skyLine_21 rfl ⟨⟨by omega, by omega⟩, ⟨by omega, by omega⟩⟩ (fun h21 => (by exfalso; omega)) (fun h21 => ?_)
        refine z_al0 eX12_skyLine_24 hR.ne ?_
        refine z_rg (j := 12) lX12_25 eX12_skyLine_25 rfl hR rfl rfl ?_
        rw [pS_12]
        refine z_iconst eX12_skyLine_28 ?_
        refine z_icmp_ne (tgt := 52) eX12_skyLine_29 rfl ⟨⟨by omega, by omega⟩, ⟨by omega, by omega⟩⟩ (fun h29 => (by exfalso; omega)) (fun h29 => ?_)
        refine z_il3 eX12_skyLine_32 ?_
        refine z_al0 eX12_skyLine_33 hR.ne ?_
        refine z_il2 eX12_skyLine_34 ?_
        refine z_il4 eX12_skyLine_35 ?_
        refine z_iadd eX12_skyLine_37 ?_
        refine z_V1 eX12_skyLine_38 vX12_77 rfl rfl (Nat.le_of_ble_eq_true rfl) (Nat.le_of_ble_eq_true rfl) hR.x (p_X12_letter hR hT ⟨by omega, by omega⟩) ?_
        refine z_bipush eX12_skyLine_41 (by decide) ?_
        refine z_isub eX12_skyLine_43 ?_
        refine z_iadd eX12_skyLine_44 ?_
        refine z_is3 eX12_skyLine_45 (Nat.ne_of_beq_eq_false rfl) ?_
        refine z_ii4 eX12_skyLine_46 (Nat.ne_of_beq_eq_false rfl) ?_
        refine z_goto eX12_skyLine_49 (tgt := 18) rfl ?_
        rw [zsum_s _ h0] at ih; exact ih
    refine z_al0 eX12_skyLine_0 hR.ne ?_
    refine z_V0 eX12_skyLine_1 vX12_139 rfl rfl (Nat.le_of_ble_eq_true rfl) (Nat.le_of_ble_eq_true rfl) hR.x (p_X12_sky hR hS hT (by first | assumption | exact ⟨by omega, by omega, by omega, by omega⟩)) ?_
    rw [hq]
    refine z_is1 eX12_skyLine_4 (Nat.ne_of_beq_eq_false rfl) ?_
    refine z_al0 eX12_skyLine_5 hR.ne ?_
    refine z_iconst eX12_skyLine_6 ?_
    refine z_bipush eX12_skyLine_7 (by decide) ?_
    refine z_V2 eX12_skyLine_9 vX12_126 rfl rfl (Nat.le_of_ble_eq_true rfl) (Nat.le_of_ble_eq_true rfl) hR.x (p_X12_row hR hT ⟨by omega, by omega⟩ ⟨by omega, by omega⟩ ⟨by omega, by omega⟩ ⟨by omega, by omega⟩) ?_
    rw [hp]
    refine z_is2 eX12_skyLine_12 (Nat.ne_of_beq_eq_false rfl) ?_
    refine z_iconst eX12_skyLine_13 ?_
    refine z_is3 eX12_skyLine_14 (Nat.ne_of_beq_eq_false rfl) ?_
    refine z_iconst eX12_skyLine_15 ?_
    refine z_is4 eX12_skyLine_16 (Nat.ne_of_beq_eq_false rfl) ?_
    exact hn 0 (by omega) (by omega)
  · rw [if_neg (fun q => hf q.1)] at hg
    subst hg
    rw [if_neg hf, zM_self]
    refine z_al0 eX12_skyLine_0 hR.ne ?_
    refine z_V0 eX12_skyLine_1 vX12_139 rfl rfl (Nat.le_of_ble_eq_true rfl) (Nat.le_of_ble_eq_true rfl) hR.x (p_X12_sky hR hS hT (by first | assumption | exact ⟨by omega, by omega, by omega, by omega⟩)) ?_
    rw [hq]
    refine z_is1 eX12_skyLine_4 (Nat.ne_of_beq_eq_false rfl) ?_
    refine z_al0 eX12_skyLine_5 hR.ne ?_
    refine z_iconst eX12_skyLine_6 ?_
    refine z_bipush eX12_skyLine_7 (by decide) ?_
    refine z_V2 eX12_skyLine_9 vX12_126 rfl rfl (Nat.le_of_ble_eq_true rfl) (Nat.le_of_ble_eq_true rfl) hR.x (p_X12_row hR hT ⟨by omega, by omega⟩ ⟨by omega, by omega⟩ ⟨by omega, by omega⟩ ⟨by omega, by omega⟩) ?_
    rw [hp]
    refine z_is2 eX12_skyLine_12 (Nat.ne_of_beq_eq_false rfl) ?_
    refine z_iconst eX12_skyLine_13 ?_
    refine z_is3 eX12_skyLine_14 (Nat.ne_of_beq_eq_false rfl) ?_
    refine z_iconst eX12_skyLine_15 ?_
    refine z_is4 eX12_skyLine_16 (Nat.ne_of_beq_eq_false rfl) ?_
    refine z_il4 eX12_skyLine_18 ?_
    refine z_iconst eX12_skyLine_20 ?_
    refine z_icmp_ge (tgt := 52) eX12_skyLine_21 rfl ⟨⟨by omega, by omega⟩, ⟨by omega, by omega⟩⟩ (fun h21 => (by exfalso; omega)) (fun h21 => ?_)
    refine z_al0 eX12_skyLine_24 hR.ne ?_
    refine z_rg (j := 12) lX12_25 eX12_skyLine_25 rfl hR rfl rfl ?_
    rw [pS_12]
    refine z_iconst eX12_skyLine_28 ?_
    refine z_icmp_ne (tgt := 52) eX12_skyLine_29 rfl ⟨⟨by omega, by omega⟩, ⟨by omega, by omega⟩⟩ (fun h29 => ?_) (fun h29 => absurd h29 hf)
    refine z_al0 eX12_skyLine_52 hR.ne ?_
    refine z_rg (j := 12) lX12_25 eX12_skyLine_53 rfl hR rfl rfl ?_
    rw [pS_12]
    refine z_iconst eX12_skyLine_56 ?_
    refine z_icmp_ne (tgt := 69) eX12_skyLine_57 rfl ⟨⟨by omega, by omega⟩, ⟨by omega, by omega⟩⟩ (fun h57 => ?_) (fun h57 => absurd h57 hf)
    refine z_al0 eX12_skyLine_69 hR.ne ?_
    refine z_rg (j := 12) lX12_25 eX12_skyLine_70 rfl hR rfl rfl ?_
    rw [pS_12]
    refine z_iconst eX12_skyLine_73 ?_
    refine z_icmp_eq (tgt := 78) eX12_skyLine_74 rfl ⟨⟨by omega, by omega⟩, ⟨by omega, by omega⟩⟩ (fun h74 => absurd h74 hf) (fun h74 => ?_)
    refine z_return eX12_skyLine_77 rfl ?_
    exact ⟨rfl, rfl, rfl, rfl⟩
