/-! Posts, on. -/
theorem c_X7_planPosts {G : zG} {lay : zLay} {σ C0 : zMem} {nx x b : Int} (hT : TopL lay x) {M : Int → Int} (hB : CoAt b) (hd : b + 18 ≤ 303) (hN : CoN σ b M) (hM : zOK M) : zMM G 2 KX7_planPosts [zP (x + 310), zP (x + b)] lay (tC x σ C0) nx (0, 0) (zZ' none (fun q => zOut 311 1 σ q ∧ PoV q M 0) lay C0 nx x) := by
  refine z_met' (L := [zP (x + 310), zP (x + b), zU, zU, zU, zU]) gX7_planPosts.1 rfl rfl (Nat.le_of_ble_eq_true rfl) rfl ?_
  have hA := PlAt
  have hb0 := hB.b0 (by decide)
  have hx := hT.1
  have hne : x + 310 ≠ -1 := by omega
  have hI := hM.1
  have hm3 := hI.m3
  obtain ⟨Q, hQ⟩ : ∃ Q, zZ' none (fun q => zOut 311 1 σ q ∧ PoV q M 0) lay C0 nx x = Q := ⟨_, rfl⟩
  have hl : ∀ u : Int, -1 ≤ u → u < 256 → ∀ (S : zMem) (y3 y4 y5 : zAV), zOut 311 1 σ S → PoV S M (u + 1) → zW G KX7_planPosts 2 Q 4 [zP (x + 310), zP (x + b), zI u, y3, y4, y5] [] lay (tC x S C0) nx (0, 0) := by
    refine z_down ?_ 256 ?_
    · intro S y3 y4 y5 hS hP
      subst hQ
      refine z_il2 eX7_planPosts_4 ?_
      refine z_if_lt (tgt := 79) eX7_planPosts_5 rfl ⟨by omega, by omega⟩ (fun h5 => ?_) (fun h5 => (by exfalso; omega))
      refine z_return eX7_planPosts_79 rfl ?_
      exact zZv ⟨hS, hP⟩
    · intro u u0 u1 ih S y3 y4 y5 hS hP
      have hNS : CoN S b M := hN.far (fun i i0 i1 => hS _ (by omega))
      have hqc := qbits_cnt ⟨u0, u1⟩
      have hqb := qbits_bd u
      have w65 : ∀ (v : Int) (y5 : zAV), (qCnt u ≤ M 3 → v = qPoT M (qCnt u) u) → zW G KX7_planPosts 2 Q 65 [zP (x + 310), zP (x + b), zI u, zI (qbits u), zI v, y5] [] lay (tC x S C0) nx (0, 0) := by
        intro v y5 hv
        have hP2 : PoV (zset S (310 + 1) u v) M u := by
          intro a a0 a1 a2 a3
          rw [show (311 : Int) = 310 + 1 by decide]
          by_cases e : a = u
          · rw [e] at a3 ⊢; rw [zset_eq]; exact hv a3
          · rw [zset_f e]; exact hP a (by omega) a1 a2 a3
        refine z_al0 eX7_planPosts_65 hne ?_
        first | refine z_ta0 lX7_9 eX7_planPosts_66 rfl hT hA (by decide) rfl rfl ?_ | refine z_ta lX7_9 eX7_planPosts_66 rfl hT hA ⟨by decide, by decide⟩ rfl rfl ?_
        refine z_il2 eX7_planPosts_69 ?_
        refine z_il4 eX7_planPosts_70 ?_
        refine z_ts eX7_planPosts_72 hT hA ⟨by decide, by decide⟩ rfl rfl ⟨by omega, by omega⟩ ?_
        refine z_ii2 eX7_planPosts_73 (Nat.ne_of_beq_eq_false rfl) ?_
        refine z_goto eX7_planPosts_76 (tgt := 4) rfl ?_
        exact ih _ _ _ _ (hS.set ⟨by decide, by decide⟩) (by rw [show u - 1 + 1 = u by omega]; exact hP2)
      by_cases hlt : qbits u < M 3
      · have hp : 0 ≤ qbits u ∧ qbits u < M 3 := ⟨hqb.1, hlt⟩
        have hin : ∀ t : Int, 0 ≤ t → t ≤ 8 → zW G KX7_planPosts 2 Q 19 [zP (x + 310), zP (x + b), zI u, zI (qbits u), zI (qPoC M (qbits u) u t), zI t] [] lay (tC x S C0) nx (0, 0) := by
          refine z_up 8 ?_ ?_
          · have e8 := qPoC_8 hM hp hqc.symm
            refine z_il5 eX7_planPosts_19 ?_
            refine z_bipush eX7_planPosts_21 (by decide) ?_
            refine z_icmp_ge (tgt := 65) eX7_planPosts_23 rfl ⟨⟨by omega, by omega⟩, ⟨by omega, by omega⟩⟩ (fun h23 => ?_) (fun h23 => (by exfalso; omega))
            exact w65 _ _ (fun _ => by rw [e8, hqc])
          · intro t t0 t1 iu
            have z01 := zbit_01 u t
            have hb2 := qPoC_bd hM hp hqc.symm (n := t) ⟨t0, by omega⟩
            have hE := hI.E (k := t) ⟨t0, t1⟩
            have hU := hI.U (p := qbits u) ⟨hp.1, by omega⟩
            have hw := zmul_bd hE hU.2.1
            have hq := qPoT_bd hM (p := qbits u + 1) ⟨by omega, by omega⟩ (zor u (zshl 1 t))
            rw [show qPoC M (qbits u) u (t + 1) = (if zbit u t = 1 then qPoC M (qbits u) u t else qGr (qPoC M (qbits u) u t) (M (38 + t) * M (46 + 4 * qbits u + 1) + qPoT M (qbits u + 1) (zor u (zshl 1 t)))) from zfold_s _ _ t0] at iu
            refine z_il5 eX7_planPosts_19 ?_
            refine z_bipush eX7_planPosts_21 (by decide) ?_
            refine z_icmp_ge (tgt := 65) eX7_planPosts_23 rfl ⟨⟨by omega, by omega⟩, ⟨by omega, by omega⟩⟩ (fun h23 => (by exfalso; omega)) (fun h23 => ?_)
            refine z_il3 eX7_planPosts_26 ?_
            refine z_al1 eX7_planPosts_27 (by omega) ?_
            first | refine z_tg0 (j := 1) lX7_95 eX7_planPosts_28 rfl hT hB (by decide) rfl rfl rfl ?_ | refine z_tg (j := 1) lX7_95 eX7_planPosts_28 rfl hT hB ⟨by decide, by decide⟩ rfl rfl rfl ?_
            rw [hNS.n3]
            refine z_icmp_ge (tgt := 65) eX7_planPosts_31 rfl ⟨⟨by omega, by omega⟩, ⟨by omega, by omega⟩⟩ (fun h31 => (by exfalso; omega)) (fun h31 => ?_)
            refine z_il2 eX7_planPosts_34 ?_
            refine z_il5 eX7_planPosts_35 ?_
            refine z_N2 eX7_planPosts_37 vX7_55 rfl (Nat.le_of_ble_eq_true rfl) (Nat.le_of_ble_eq_true rfl) (c_X11_bitOf hT ⟨by omega, by omega⟩) ?_
            refine z_if_ne (tgt := 59) eX7_planPosts_40 rfl ⟨by omega, by omega⟩ (fun h40 => ?_) (fun h40 => ?_)
            · refine z_ii5 eX7_planPosts_59 (Nat.ne_of_beq_eq_false rfl) ?_
              refine z_goto eX7_planPosts_62 (tgt := 19) rfl ?_
              first | (rw [if_neg (by omega)] at iu; exact iu) | (rw [if_pos (by omega)] at iu; exact iu) | fail
            · refine z_il4 eX7_planPosts_43 ?_
              refine z_al0 eX7_planPosts_45 hne ?_
              refine z_il2 eX7_planPosts_46 ?_
              refine z_il3 eX7_planPosts_47 ?_
              refine z_il5 eX7_planPosts_48 ?_
              refine z_al1 eX7_planPosts_50 (by omega) ?_
              refine z_V4 eX7_planPosts_51 vX7_98 rfl rfl (Nat.le_of_ble_eq_true rfl) (Nat.le_of_ble_eq_true rfl) ((hA).L0 hT (by decide)) (c_X7_withPlace hT hB hNS hI hP ⟨u0, u1⟩ hqc.symm hp ⟨t0, t1⟩ (by omega)) ?_
              refine z_max eX7_planPosts_54 vX7_87 rfl (Nat.le_of_ble_eq_true rfl) (Nat.le_of_ble_eq_true rfl) ⟨⟨by omega, by omega⟩, ⟨by omega, by omega⟩⟩ ?_
              rw [qGr_max]
              refine z_is4 eX7_planPosts_57 (Nat.ne_of_beq_eq_false rfl) ?_
              refine z_ii5 eX7_planPosts_59 (Nat.ne_of_beq_eq_false rfl) ?_
              refine z_goto eX7_planPosts_62 (tgt := 19) rfl ?_
              first | (rw [if_neg (by omega)] at iu; exact iu) | (rw [if_pos (by omega)] at iu; exact iu) | fail
        refine z_il2 eX7_planPosts_4 ?_
        refine z_if_lt (tgt := 79) eX7_planPosts_5 rfl ⟨by omega, by omega⟩ (fun h5 => (by exfalso; omega)) (fun h5 => ?_)
        refine z_il2 eX7_planPosts_8 ?_
        refine z_S1 eX7_planPosts_9 vX7_71 rfl rfl (Nat.le_of_ble_eq_true rfl) (Nat.le_of_ble_eq_true rfl) (c_J6_bitCount_0f7a4 ⟨by omega, by omega⟩) ?_
        refine z_is3 eX7_planPosts_12 (Nat.ne_of_beq_eq_false rfl) ?_
        refine z_iconst eX7_planPosts_13 ?_
        refine z_is4 eX7_planPosts_14 (Nat.ne_of_beq_eq_false rfl) ?_
        refine z_iconst eX7_planPosts_16 ?_
        refine z_is5 eX7_planPosts_17 (Nat.ne_of_beq_eq_false rfl) ?_
        exact hin 0 (by decide) (by decide)
      · skip
        refine z_il2 eX7_planPosts_4 ?_
        refine z_if_lt (tgt := 79) eX7_planPosts_5 rfl ⟨by omega, by omega⟩ (fun h5 => (by exfalso; omega)) (fun h5 => ?_)
        refine z_il2 eX7_planPosts_8 ?_
        refine z_S1 eX7_planPosts_9 vX7_71 rfl rfl (Nat.le_of_ble_eq_true rfl) (Nat.le_of_ble_eq_true rfl) (c_J6_bitCount_0f7a4 ⟨by omega, by omega⟩) ?_
        refine z_is3 eX7_planPosts_12 (Nat.ne_of_beq_eq_false rfl) ?_
        refine z_iconst eX7_planPosts_13 ?_
        refine z_is4 eX7_planPosts_14 (Nat.ne_of_beq_eq_false rfl) ?_
        refine z_iconst eX7_planPosts_16 ?_
        refine z_is5 eX7_planPosts_17 (Nat.ne_of_beq_eq_false rfl) ?_
        refine z_il5 eX7_planPosts_19 ?_
        refine z_bipush eX7_planPosts_21 (by decide) ?_
        refine z_icmp_ge (tgt := 65) eX7_planPosts_23 rfl ⟨⟨by omega, by omega⟩, ⟨by omega, by omega⟩⟩ (fun h23 => (by exfalso; omega)) (fun h23 => ?_)
        refine z_il3 eX7_planPosts_26 ?_
        refine z_al1 eX7_planPosts_27 (by omega) ?_
        first | refine z_tg0 (j := 1) lX7_95 eX7_planPosts_28 rfl hT hB (by decide) rfl rfl rfl ?_ | refine z_tg (j := 1) lX7_95 eX7_planPosts_28 rfl hT hB ⟨by decide, by decide⟩ rfl rfl rfl ?_
        rw [hNS.n3]
        refine z_icmp_ge (tgt := 65) eX7_planPosts_31 rfl ⟨⟨by omega, by omega⟩, ⟨by omega, by omega⟩⟩ (fun h31 => ?_) (fun h31 => (by exfalso; omega))
        refine w65 _ _ (fun z => ?_)
        rw [show qCnt u = M 3 by omega]
        unfold qPoT
        rw [show (M 3 - M 3).toNat = 0 by omega]
        rfl
  rw [hQ]
  refine z_sipush eX7_planPosts_0 (by decide) ?_
  refine z_is2 eX7_planPosts_3 (Nat.ne_of_beq_eq_false rfl) ?_
  exact hl 255 (by decide) (by decide) σ _ _ _ (zOut.refl _ _ _) (fun a a0 a1 a2 a3 => by omega)
theorem qPoN_s (M : Int → Int) {n : Int} (hn : 0 ≤ n) : qPoN M (n + 1) = qPoH M n (qPoN M n).1 := zfold_s _ _ hn
theorem qPoN_cnt {M : Int → Int} (hM : zOK M) : ∀ n : Nat, (n : Int) ≤ M 3 → qCnt (qPoN M n).1 = n ∧ (0 ≤ (qPoN M n).1 ∧ (qPoN M n).1 < 256) := by
  have hm3 := hM.1.m3
  intro n
  induction n with
  | zero => intro _; exact ⟨by show qCnt 0 = 0; decide, by show (0 : Int) ≤ 0; decide, by show (0 : Int) < 256; decide⟩
  | succ n ih =>
    intro hn
    obtain ⟨h1, h2⟩ := ih (by omega)
    rw [show ((n + 1 : Nat) : Int) = (n : Int) + 1 by omega, qPoN_s M (by omega)]
    have hf := qPoFound (M := M) (p := n) (set := (qPoN M n).1) (by omega) (by have := qPoT_ge hM (p := n) (u := (qPoN M n).1) ⟨by omega, by omega⟩ h1; omega)
    unfold qPoH
    rcases qFrom_sp (p := qPoP M n (qPoN M n).1) (k := 0) (n := 8) (by decide) with ⟨a, c⟩ | ⟨a, c, d, f⟩
    · omega
    · exact ⟨by rw [qCnt_new ⟨a, c⟩ d.1, h1], zor_256 h2 ⟨a, c⟩⟩
theorem c_X7_placeOf {G : zG} {lay : zLay} {σ C0 : zMem} {nx x b : Int} (hT : TopL lay x) {a : Int} {M : Int → Int} (hB : CoAt b) (hN : CoN σ b M) (hM : zOK M) (hP : PoV σ M 0) (ha : 0 ≤ a ∧ a < M 3) : zMM G 3 KX7_placeOf [zP (x + 310), zI a, zP (x + b)] lay (tC x σ C0) nx (0, 0) (zR (some (zI (qPoN M (a + 1)).2)) lay (tC x (σ) (C0)) nx) := by
  refine z_met' (L := [zP (x + 310), zI a, zP (x + b), zU, zU, zU]) gX7_placeOf.1 rfl rfl (Nat.le_of_ble_eq_true rfl) rfl ?_
  have hA := PlAt
  have hb0 := hB.b0 (by decide)
  have hx := hT.1
  have hne : x + 310 ≠ -1 := by omega
  have hI := hM.1
  have hm3 := hI.m3
  have hl : ∀ t : Int, 0 ≤ t → t ≤ a + 1 → zW G KX7_placeOf 3 (zR (some (zI (qPoN M (a + 1)).2)) lay (tC x σ C0) nx) 8 [zP (x + 310), zI a, zP (x + b), zI (qPoN M t).1, zI (qPoN M t).2, zI t] [] lay (tC x σ C0) nx (0, 0) := by
    refine z_up (a + 1) ?_ ?_
    · skip
      refine z_il5 eX7_placeOf_8 ?_
      refine z_il1 eX7_placeOf_10 ?_
      refine z_icmp_gt (tgt := 56) eX7_placeOf_11 rfl ⟨⟨by omega, by omega⟩, ⟨by omega, by omega⟩⟩ (fun h11 => ?_) (fun h11 => (by exfalso; omega))
      refine z_il4 eX7_placeOf_56 ?_
      refine z_ireturn eX7_placeOf_58 rfl ?_
      first | exact ⟨rfl, rfl, rfl, rfl⟩ | exact zRb1 (by omega) | exact zRb0 (by omega) | exact zRe (by omega)
    · intro t t0 t1 ih
      have hv := qPoN_cnt hM t.toNat (by omega)
      rw [Int.toNat_of_nonneg t0] at hv
      have hs := qPoN_s M t0
      have hf := qPoFound (M := M) (p := t) (set := (qPoN M t).1) (by omega) (by have := qPoT_ge hM (p := t) (u := (qPoN M t).1) ⟨by omega, by omega⟩ hv.1; omega)
      have e1 : (qPoN M (t + 1)).1 = zor (qPoN M t).1 (zshl 1 (qPoN M (t + 1)).2) := by rw [hs]; rfl
      have e3 : (qPoN M (t + 1)).2 = qFrom (qPoP M t (qPoN M t).1) 0 8 := by rw [hs]; rfl
      rw [e1] at ih
      refine z_il5 eX7_placeOf_8 ?_
      refine z_il1 eX7_placeOf_10 ?_
      refine z_icmp_gt (tgt := 56) eX7_placeOf_11 rfl ⟨⟨by omega, by omega⟩, ⟨by omega, by omega⟩⟩ (fun h11 => (by exfalso; omega)) (fun h11 => ?_)
      refine z_il5 eX7_placeOf_14 ?_
      refine z_al2 eX7_placeOf_16 (by omega) ?_
      first | refine z_tg0 (j := 1) lX7_95 eX7_placeOf_17 rfl hT hB (by decide) rfl rfl rfl ?_ | refine z_tg (j := 1) lX7_95 eX7_placeOf_17 rfl hT hB ⟨by decide, by decide⟩ rfl rfl rfl ?_
      rw [hN.n3]
      refine z_icmp_ge (tgt := 56) eX7_placeOf_20 rfl ⟨⟨by omega, by omega⟩, ⟨by omega, by omega⟩⟩ (fun h20 => (by exfalso; omega)) (fun h20 => ?_)
      refine z_al0 eX7_placeOf_23 hne ?_
      refine z_il3 eX7_placeOf_24 ?_
      refine z_il5 eX7_placeOf_25 ?_
      refine z_al2 eX7_placeOf_27 (by omega) ?_
      refine z_V3 eX7_placeOf_28 vX7_108 rfl rfl (Nat.le_of_ble_eq_true rfl) (Nat.le_of_ble_eq_true rfl) ((hA).L0 hT (by decide)) (c_X7_firstPlace hT hB hN hM hP hv.2 hv.1 ⟨t0, by omega⟩) ?_
      rw [← hs]
      refine z_is4 eX7_placeOf_31 (Nat.ne_of_beq_eq_false rfl) ?_
      refine z_il3 eX7_placeOf_33 ?_
      refine z_il4 eX7_placeOf_34 ?_
      refine z_iconst eX7_placeOf_36 ?_
      refine z_icmp_ne (tgt := 44) eX7_placeOf_37 rfl ⟨⟨by omega, by omega⟩, ⟨by omega, by omega⟩⟩ (fun h37 => ?_) (fun h37 => (by exfalso; omega))
      refine z_iconst eX7_placeOf_44 ?_
      refine z_il4 eX7_placeOf_45 ?_
      refine z_ishl eX7_placeOf_47 ?_
      refine z_ior eX7_placeOf_48 ?_
      refine z_is3 eX7_placeOf_49 (Nat.ne_of_beq_eq_false rfl) ?_
      refine z_ii5 eX7_placeOf_50 (Nat.ne_of_beq_eq_false rfl) ?_
      refine z_goto eX7_placeOf_53 (tgt := 8) rfl ?_
      exact ih
  refine z_iconst eX7_placeOf_0 ?_
  refine z_is3 eX7_placeOf_1 (Nat.ne_of_beq_eq_false rfl) ?_
  refine z_iconst eX7_placeOf_2 ?_
  refine z_is4 eX7_placeOf_3 (Nat.ne_of_beq_eq_false rfl) ?_
  refine z_iconst eX7_placeOf_5 ?_
  refine z_is5 eX7_placeOf_6 (Nat.ne_of_beq_eq_false rfl) ?_
  exact hl 0 (by decide) (by omega)
