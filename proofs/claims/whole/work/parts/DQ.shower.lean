/-! A shower, haste, posts. -/
theorem qSumOf_w {M : Int → Int} (w set n : Int) : qSumOf (fun k => M (74 + 5 * k + w)) set n = zsum (fun k => if zbit set k = 1 then M (74 + 5 * k + w) else 0) n := by
  unfold qSumOf
  congr 1
  funext k
  rcases zbit_01 set k with e | e
  · rw [e, if_neg (by decide), Int.zero_mul]
  · rw [e, if_pos rfl, Int.one_mul]
theorem qMay_c {M : Int → Int} (hI : zInv M) : qCarOf M (qInSt M 0) 2 (M 4) = qMay M := by
  have h4 := hI.m4
  unfold qCarOf qMay
  refine zors_congr (fun t t0 t1 => ?_)
  have hw := qInSt_B hI 0 (i := t) ⟨t0, by omega⟩
  by_cases e : M (74 + 5 * t + 4) = 0 ∧ qGo M t 2 (M 6) = 1
  · rw [if_pos e, if_pos ⟨hw.mpr ⟨t1, e.1⟩, e.2⟩]
  · rw [if_neg e, if_neg (fun z => e ⟨(hw.mp z.1).2, z.2⟩)]
theorem qShow_s (M : Int → Int) (h : Int) {n : Int} (hn : 0 ≤ n) : qShow M h (n + 1) = if zand n (zxor (qMay M) (-1)) = 0 ∧ qTakes M n ≤ h ∧ qWorth M (qShow M h n) < qWorth M n then n else qShow M h n := by unfold qShow; rw [zfold_s _ _ hn]
theorem qShow_1 (M : Int → Int) (h : Int) : qShow M h 1 = 0 := by
  rw [show (1 : Int) = 0 + 1 by decide, qShow_s M h (Int.le_refl 0), if_neg]
  · rfl
  · intro z
    have := z.2.2
    rw [show qShow M h 0 = 0 from rfl] at this
    omega
theorem qWorth_0 {M : Int → Int} (h4 : 0 ≤ M 4) : qWorth M 0 = 0 := by
  have := zsum_bnd (f := fun k => if zbit 0 k = 1 then M (74 + 5 * k + 2) else 0) (c := 0) h4 (fun t t0 t1 => by
    have h2 : ¬ zbit 0 t = 1 := by
      unfold zbit
      have h3 : zshr 0 t = 0 := by unfold zshr; simp
      rw [h3]; decide
    rw [if_neg h2]; exact ⟨Int.le_refl _, Int.le_refl _⟩)
  unfold qWorth
  omega
theorem z_upF {P : Int → Prop} (a N : Int) (hend : P N) (hstep : ∀ t : Int, a ≤ t → t < N → P (t + 1) → P t) : ∀ t : Int, a ≤ t → t ≤ N → P t := by
  have h : ∀ m : Nat, ∀ t : Int, t + m = N → a ≤ t → P t := by
    intro m
    induction m with
    | zero => intro t ht _; rw [show t = N by omega]; exact hend
    | succ m ih => intro t ht ha; exact hstep t ha (by omega) (ih (t + 1) (by omega) (by omega))
  intro t t0 t1
  exact h (N - t).toNat t (by omega) t0
theorem c_X11_shower {G : zG} {lay : zLay} {σ C0 : zMem} {nx x : Int} (hT : TopL lay x) {h w : Int} {M : Int → Int} (hR : CoR lay x C0 σ (0 + 2) M) (hM : zOC M) (hh : zin h) (hw : w = 0 ∨ w = 1) : zMM G 8 KX11_shower [zP (x + 0), zI h, zI w] lay (tC x σ C0) nx (1, 6) (zGd (0 ≤ h ∧ h ≤ 40) zEa lay (tC x σ C0) nx (zY' (some (zI (if w = 1 then qWorth M (qShow M h 256) else qShow M h 256))) (fun q C => zFc (0 + 2) σ C0 q C) lay nx x)) := by
  refine z_met' (L := [zP (x + 0), zI h, zI w, zU, zU, zU, zU, zU]) gX11_shower.1 rfl rfl (Nat.le_of_ble_eq_true rfl) rfl ?_
  have hA := TpAt
  have hx := hT.1
  have hne : x + 0 ≠ -1 := by omega
  have hD := isCo.now
  have hm4 := hM.I.m4
  have hl : ∀ (Q : zQ) (S C : zMem), CoR lay x C S (0 + 2) M → Q (.inl (some (zI (if w = 1 then qWorth M (qShow M h 256) else qShow M h 256)))) lay (tC x S C) nx → 0 ≤ h ∧ h ≤ 40 → ∀ t : Int, 1 ≤ t → t ≤ 256 → ∀ (y : zAV) (m b : Int), m = qWorth M (qShow M h t) → b = qShow M h t → zW G KX11_shower 8 Q 36 [zP (x + 0), zI h, zI w, zI (qMay M), zI m, zI b, zI t, y] [] lay (tC x S C) nx (0, 0) := by
    intro Q S C hRS hq hh1
    have hsw : ∀ t, qSumOf (fun k => M (74 + 5 * k + 1)) t (M 4) = qTakes M t := fun t => qSumOf_w 1 t (M 4)
    have hsv : ∀ t, qSumOf (fun k => M (74 + 5 * k + 2)) t (M 4) = qWorth M t := fun t => qSumOf_w 2 t (M 4)
    refine z_upF 1 256 ?_ ?_
    · intro y m b hm hb
      subst hm
      subst hb
      refine z_il6 eX11_shower_36 ?_
      refine z_sipush eX11_shower_38 (by decide) ?_
      refine z_icmp_ge (tgt := 127) eX11_shower_41 rfl ⟨⟨by omega, by omega⟩, ⟨by omega, by omega⟩⟩ (fun h41 => ?_) (fun h41 => (by exfalso; omega))
      refine z_il2 eX11_shower_127 ?_
      refine z_if_eq (tgt := 136) eX11_shower_128 rfl ⟨by omega, by omega⟩ (fun h128 => ?_) (fun h128 => ?_)
      · refine z_il5 eX11_shower_136 ?_
        refine z_ireturn eX11_shower_138 rfl ?_
        first | (rw [if_pos (by omega)] at hq; exact hq) | (rw [if_neg (by omega)] at hq; exact hq)
      · refine z_il4 eX11_shower_131 ?_
        refine z_goto eX11_shower_133 (tgt := 138) rfl ?_
        refine z_ireturn eX11_shower_138 rfl ?_
        first | (rw [if_pos (by omega)] at hq; exact hq) | (rw [if_neg (by omega)] at hq; exact hq)
    · intro t t0 t1 ih y m b hm hb
      subst hm
      subst hb
      have b1 : 0 ≤ qTakes M t ∧ qTakes M t ≤ 72 := qTakes_bd hM.ol.1 t ⟨hm4.1, Int.le_refl _⟩
      have b2 := qWorth_bd hM.ol.1 t
      have b3 := qWorth_bd hM.ol.1 (qShow M h t)
      rw [qShow_s M h (by omega)] at ih
      refine z_il6 eX11_shower_36 ?_
      refine z_sipush eX11_shower_38 (by decide) ?_
      refine z_icmp_ge (tgt := 127) eX11_shower_41 rfl ⟨⟨by omega, by omega⟩, ⟨by omega, by omega⟩⟩ (fun h41 => (by exfalso; omega)) (fun h41 => ?_)
      refine z_il6 eX11_shower_44 ?_
      refine z_il3 eX11_shower_46 ?_
      refine z_iconst eX11_shower_47 ?_
      refine z_ixor eX11_shower_48 ?_
      refine z_iand eX11_shower_49 ?_
      refine z_if_ne (tgt := 121) eX11_shower_50 rfl (zand_in t (zxor (qMay M) (-1))) (fun h50 => ?_) (fun h50 => ?_)
      · refine z_ii6 eX11_shower_121 (Nat.ne_of_beq_eq_false rfl) ?_
        refine z_goto eX11_shower_124 (tgt := 36) rfl ?_
        first | (have e3 := h110; first | (rw [if_pos ⟨h50, by omega, by omega⟩] at ih; exact ih _ _ _ rfl rfl) | (rw [if_neg (fun z => by omega)] at ih; exact ih _ _ _ rfl rfl)) | (have e3 := h76; rw [if_neg (fun z => by omega)] at ih; exact ih _ _ _ rfl rfl) | (rw [if_neg (fun z => h50 z.1)] at ih; exact ih _ _ _ rfl rfl) | fail
      · refine z_al0 eX11_shower_53 hne ?_
        first | refine z_ta0 lX11_20 eX11_shower_54 rfl hT hA (by decide) rfl rfl ?_ | refine z_ta lX11_20 eX11_shower_54 rfl hT hA ⟨by decide, by decide⟩ rfl rfl ?_
        first | refine z_ta0 lX11_154 eX11_shower_57 rfl hT hD (by decide) rfl rfl ?_ | refine z_ta lX11_154 eX11_shower_57 rfl hT hD ⟨by decide, by decide⟩ rfl rfl ?_
        refine z_al0 eX11_shower_60 hne ?_
        first | refine z_ta0 lX11_20 eX11_shower_61 rfl hT hA (by decide) rfl rfl ?_ | refine z_ta lX11_20 eX11_shower_61 rfl hT hA ⟨by decide, by decide⟩ rfl rfl ?_
        first | refine z_ta0 lX11_154 eX11_shower_64 rfl hT hD (by decide) rfl rfl ?_ | refine z_ta lX11_154 eX11_shower_64 rfl hT hD ⟨by decide, by decide⟩ rfl rfl ?_
        first | refine z_ta0 lX11_174 eX11_shower_67 rfl hT hD.mo (by decide) rfl rfl ?_ | refine z_ta lX11_174 eX11_shower_67 rfl hT hD.mo ⟨by decide, by decide⟩ rfl rfl ?_
        refine z_il6 eX11_shower_70 ?_
        refine z_V2 eX11_shower_72 vX11_290 rfl rfl (Nat.le_of_ble_eq_true rfl) (Nat.le_of_ble_eq_true rfl) ((hD.mo).L0 hT (by decide)) (c_X6_sumOver hT hD.mo hRS.1.mo hM.I (w := 2) (f := fun k => M (74 + 5 * k + 1)) ⟨by decide, by decide⟩ (fun k k0 k1 => (hRS.1.mo.2.1 k k0 k1).2.1)) ?_
        refine z_il1 eX11_shower_75 ?_
        rw [hsw]
        refine z_icmp_le (tgt := 82) eX11_shower_76 rfl ⟨⟨by omega, by omega⟩, ⟨by omega, by omega⟩⟩ (fun h76 => ?_) (fun h76 => ?_)
        · refine z_al0 eX11_shower_82 hne ?_
          first | refine z_ta0 lX11_20 eX11_shower_83 rfl hT hA (by decide) rfl rfl ?_ | refine z_ta lX11_20 eX11_shower_83 rfl hT hA ⟨by decide, by decide⟩ rfl rfl ?_
          first | refine z_ta0 lX11_154 eX11_shower_86 rfl hT hD (by decide) rfl rfl ?_ | refine z_ta lX11_154 eX11_shower_86 rfl hT hD ⟨by decide, by decide⟩ rfl rfl ?_
          refine z_al0 eX11_shower_89 hne ?_
          first | refine z_ta0 lX11_20 eX11_shower_90 rfl hT hA (by decide) rfl rfl ?_ | refine z_ta lX11_20 eX11_shower_90 rfl hT hA ⟨by decide, by decide⟩ rfl rfl ?_
          first | refine z_ta0 lX11_154 eX11_shower_93 rfl hT hD (by decide) rfl rfl ?_ | refine z_ta lX11_154 eX11_shower_93 rfl hT hD ⟨by decide, by decide⟩ rfl rfl ?_
          first | refine z_ta0 lX11_177 eX11_shower_96 rfl hT hD.mo (by decide) rfl rfl ?_ | refine z_ta lX11_177 eX11_shower_96 rfl hT hD.mo ⟨by decide, by decide⟩ rfl rfl ?_
          refine z_il6 eX11_shower_99 ?_
          refine z_V2 eX11_shower_101 vX11_290 rfl rfl (Nat.le_of_ble_eq_true rfl) (Nat.le_of_ble_eq_true rfl) ((hD.mo).L0 hT (by decide)) (c_X6_sumOver hT hD.mo hRS.1.mo hM.I (w := 3) (f := fun k => M (74 + 5 * k + 2)) ⟨by decide, by decide⟩ (fun k k0 k1 => (hRS.1.mo.2.1 k k0 k1).2.2.1)) ?_
          refine z_is7 eX11_shower_104 (Nat.ne_of_beq_eq_false rfl) ?_
          refine z_il7 eX11_shower_106 ?_
          refine z_il4 eX11_shower_108 ?_
          rw [hsv]
          refine z_icmp_le (tgt := 121) eX11_shower_110 rfl ⟨⟨by omega, by omega⟩, ⟨by omega, by omega⟩⟩ (fun h110 => ?_) (fun h110 => ?_)
          · refine z_ii6 eX11_shower_121 (Nat.ne_of_beq_eq_false rfl) ?_
            refine z_goto eX11_shower_124 (tgt := 36) rfl ?_
            first | (have e3 := h110; first | (rw [if_pos ⟨h50, by omega, by omega⟩] at ih; exact ih _ _ _ rfl rfl) | (rw [if_neg (fun z => by omega)] at ih; exact ih _ _ _ rfl rfl)) | (have e3 := h76; rw [if_neg (fun z => by omega)] at ih; exact ih _ _ _ rfl rfl) | (rw [if_neg (fun z => h50 z.1)] at ih; exact ih _ _ _ rfl rfl) | fail
          · refine z_il7 eX11_shower_113 ?_
            refine z_is4 eX11_shower_115 (Nat.ne_of_beq_eq_false rfl) ?_
            refine z_il6 eX11_shower_117 ?_
            refine z_is5 eX11_shower_119 (Nat.ne_of_beq_eq_false rfl) ?_
            refine z_ii6 eX11_shower_121 (Nat.ne_of_beq_eq_false rfl) ?_
            refine z_goto eX11_shower_124 (tgt := 36) rfl ?_
            first | (have e3 := h110; first | (rw [if_pos ⟨h50, by omega, by omega⟩] at ih; exact ih _ _ _ rfl rfl) | (rw [if_neg (fun z => by omega)] at ih; exact ih _ _ _ rfl rfl)) | (have e3 := h76; rw [if_neg (fun z => by omega)] at ih; exact ih _ _ _ rfl rfl) | (rw [if_neg (fun z => h50 z.1)] at ih; exact ih _ _ _ rfl rfl) | fail
        · refine z_goto eX11_shower_79 (tgt := 121) rfl ?_
          refine z_ii6 eX11_shower_121 (Nat.ne_of_beq_eq_false rfl) ?_
          refine z_goto eX11_shower_124 (tgt := 36) rfl ?_
          first | (have e3 := h110; first | (rw [if_pos ⟨h50, by omega, by omega⟩] at ih; exact ih _ _ _ rfl rfl) | (rw [if_neg (fun z => by omega)] at ih; exact ih _ _ _ rfl rfl)) | (have e3 := h76; rw [if_neg (fun z => by omega)] at ih; exact ih _ _ _ rfl rfl) | (rw [if_neg (fun z => h50 z.1)] at ih; exact ih _ _ _ rfl rfl) | fail
  refine z_il1 eX11_shower_0 ?_
  refine z_iconst eX11_shower_1 ?_
  refine z_bipush eX11_shower_2 (by decide) ?_
  refine z_ndS3 (n := 0) eX11_shower_4 vX11_226 rfl rfl (Nat.le_of_ble_eq_true rfl) (Nat.le_of_ble_eq_true rfl) (c_X11_needNumber hT (by assumption) ⟨by omega, by omega⟩ ⟨by omega, by omega⟩) (fun hP4 => ?_) (fun hN4 => (by first | exact Or.inr ⟨(by first | assumption | exact ⟨by omega, by omega⟩ | omega), rfl, rfl, rfl, rfl⟩))
  refine z_al0 eX11_shower_7 hne ?_
  first | refine z_ta0 lX11_20 eX11_shower_8 rfl hT hA (by decide) rfl rfl ?_ | refine z_ta lX11_20 eX11_shower_8 rfl hT hA ⟨by decide, by decide⟩ rfl rfl ?_
  refine z_al0 eX11_shower_11 hne ?_
  first | refine z_ta0 lX11_20 eX11_shower_12 rfl hT hA (by decide) rfl rfl ?_ | refine z_ta lX11_20 eX11_shower_12 rfl hT hA ⟨by decide, by decide⟩ rfl rfl ?_
  first | refine z_ta0 lX11_154 eX11_shower_15 rfl hT hD (by decide) rfl rfl ?_ | refine z_ta lX11_154 eX11_shower_15 rfl hT hD ⟨by decide, by decide⟩ rfl rfl ?_
  refine z_iconst eX11_shower_18 ?_
  refine z_V1 eX11_shower_19 vX11_270 rfl rfl (Nat.le_of_ble_eq_true rfl) (Nat.le_of_ble_eq_true rfl) ((hD.mo).L0 hT (by decide)) (c_X6_inState hT hD.mo hR.1.mo hM.I (by decide)) ?_
  refine z_iconst eX11_shower_22 ?_
  refine z_V2y eX11_shower_23 vX11_273 rfl rfl (Nat.le_of_ble_eq_true rfl) (Nat.le_of_ble_eq_true rfl) ((hD).L0 hT (by decide)) (c_X1_carriedOf hT hD hR hM ⟨by decide, by decide⟩) (fun s23 C23 hs23 => ?_)
  rw [qMay_c hM.I]
  refine z_is3 eX11_shower_26 (Nat.ne_of_beq_eq_false rfl) ?_
  refine z_iconst eX11_shower_27 ?_
  refine z_is4 eX11_shower_28 (Nat.ne_of_beq_eq_false rfl) ?_
  refine z_iconst eX11_shower_30 ?_
  refine z_is5 eX11_shower_31 (Nat.ne_of_beq_eq_false rfl) ?_
  refine z_iconst eX11_shower_33 ?_
  refine z_is6 eX11_shower_34 (Nat.ne_of_beq_eq_false rfl) ?_
  exact hl _ s23 C23 (hR.fc hs23) (Or.inl ⟨hP4, zYe hs23 rfl⟩) hP4 1 (by decide) (by decide) zU _ _ (by rw [qShow_1, qWorth_0 hm4.1]) (by rw [qShow_1])
theorem zbi_bd (p : Prop) : 0 ≤ zbi p ∧ zbi p ≤ 1 := by have := zbi_01 p; omega
theorem qAheadC_bd (M : Int → Int) (a set : Int) {n : Int} (hn : 0 ≤ n) : 0 ≤ qAheadC M a set n ∧ qAheadC M a set n ≤ 1 * n := zsum_bnd hn (fun t _ _ => zbi_bd _)
theorem c_X11_haste {G : zG} {lay : zLay} {σ C0 : zMem} {nx x : Int} (hT : TopL lay x) {k : Int} {M : Int → Int} (hN : CoN σ (0 + 2) M) (hM : zOC M) (hk : zin k) : zMM G 3 KX11_haste [zP (x + 0), zI k] lay (tC x σ C0) nx (0, 0) (zR (some (zI (qFrom (fun a => M (74 + 5 * a + 4) = 0 ∧ qAhead M a (M 4) = k) 0 (M 4)))) lay (tC x (σ) (C0)) nx) := by
  refine z_met' (L := [zP (x + 0), zI k, zU, zU]) gX11_haste.1 rfl rfl (Nat.le_of_ble_eq_true rfl) rfl ?_
  have hA := TpAt
  have hx := hT.1
  have hne : x + 0 ≠ -1 := by omega
  have hD := isCo.now
  obtain ⟨k1, k2⟩ := hk
  have hm4 := hM.I.m4
  have hl : ∀ (V : Int) (m : Nat) (i : Int), i + m = M 4 → 0 ≤ i → qFst (fun a => M (74 + 5 * a + 4) = 0 ∧ qAhead M a (M 4) = k) m i = V → zW G KX11_haste 3 (zR (some (zI V)) lay (tC x σ C0) nx) 14 [zP (x + 0), zI k, zI (qInSt M 0), zI i] [] lay (tC x σ C0) nx (0, 0) := by
    intro V m
    induction m with
    | zero =>
      intro i hi i0 hV
      refine z_il3 eX11_haste_14 ?_
      refine z_al0 eX11_haste_15 hne ?_
      first | refine z_ta0 lX11_20 eX11_haste_16 rfl hT hA (by decide) rfl rfl ?_ | refine z_ta lX11_20 eX11_haste_16 rfl hT hA ⟨by decide, by decide⟩ rfl rfl ?_
      first | refine z_ta0 lX11_154 eX11_haste_19 rfl hT hD (by decide) rfl rfl ?_ | refine z_ta lX11_154 eX11_haste_19 rfl hT hD ⟨by decide, by decide⟩ rfl rfl ?_
      first | refine z_tg0 (j := 0) lX11_294 eX11_haste_22 rfl hT hD.mo (by decide) rfl rfl rfl ?_ | refine z_tg (j := 0) lX11_294 eX11_haste_22 rfl hT hD.mo ⟨by decide, by decide⟩ rfl rfl rfl ?_
      rw [hN.mo.1]
      refine z_icmp_ge (tgt := 61) eX11_haste_25 rfl ⟨⟨by omega, by omega⟩, ⟨by omega, by omega⟩⟩ (fun h25 => ?_) (fun h25 => (by exfalso; omega))
      refine z_iconst eX11_haste_61 ?_
      refine z_ireturn eX11_haste_62 rfl ?_
      rw [show (-1 : Int) = V from hV]
      exact ⟨rfl, rfl, rfl, rfl⟩
    | succ m ih =>
      intro i hi i0 hV
      rw [qFst_s] at hV
      have z1 := zbit_01 (qInSt M 0) i
      have hw := qInSt_B hM.I 0 (i := i) ⟨i0, by omega⟩
      have ha : qAheadC M i (qInSt M 0) (M 4) = qAhead M i (M 4) := qAheadC_q (fun t t0 t1 => by rw [qInSt_B hM.I 0 (i := t) ⟨t0, by omega⟩]; exact ⟨fun z => z.2, fun z => ⟨t1, z⟩⟩)
      have hb := qAheadC_bd M i (qInSt M 0) hm4.1
      refine z_il3 eX11_haste_14 ?_
      refine z_al0 eX11_haste_15 hne ?_
      first | refine z_ta0 lX11_20 eX11_haste_16 rfl hT hA (by decide) rfl rfl ?_ | refine z_ta lX11_20 eX11_haste_16 rfl hT hA ⟨by decide, by decide⟩ rfl rfl ?_
      first | refine z_ta0 lX11_154 eX11_haste_19 rfl hT hD (by decide) rfl rfl ?_ | refine z_ta lX11_154 eX11_haste_19 rfl hT hD ⟨by decide, by decide⟩ rfl rfl ?_
      first | refine z_tg0 (j := 0) lX11_294 eX11_haste_22 rfl hT hD.mo (by decide) rfl rfl rfl ?_ | refine z_tg (j := 0) lX11_294 eX11_haste_22 rfl hT hD.mo ⟨by decide, by decide⟩ rfl rfl rfl ?_
      rw [hN.mo.1]
      refine z_icmp_ge (tgt := 61) eX11_haste_25 rfl ⟨⟨by omega, by omega⟩, ⟨by omega, by omega⟩⟩ (fun h25 => (by exfalso; omega)) (fun h25 => ?_)
      refine z_il2 eX11_haste_28 ?_
      refine z_il3 eX11_haste_29 ?_
      refine z_S2 eX11_haste_30 vX11_143 rfl rfl (Nat.le_of_ble_eq_true rfl) (Nat.le_of_ble_eq_true rfl) (c_X11_bitOf hT ⟨by omega, by omega⟩) ?_
      refine z_iconst eX11_haste_33 ?_
      refine z_icmp_ne (tgt := 55) eX11_haste_34 rfl ⟨⟨by omega, by omega⟩, ⟨by omega, by omega⟩⟩ (fun h34 => ?_) (fun h34 => ?_)
      · refine z_ii3 eX11_haste_55 (Nat.ne_of_beq_eq_false rfl) ?_
        refine z_goto eX11_haste_58 (tgt := 14) rfl ?_
        first | (have e3 := h50; rw [zif_f (fun z => by omega)] at hV; exact ih (i + 1) (by omega) (by omega) hV) | (rw [zif_f (fun z => by have := hw.mpr ⟨by omega, z.1⟩; omega)] at hV; exact ih (i + 1) (by omega) (by omega) hV) | fail
      · refine z_al0 eX11_haste_37 hne ?_
        first | refine z_ta0 lX11_20 eX11_haste_38 rfl hT hA (by decide) rfl rfl ?_ | refine z_ta lX11_20 eX11_haste_38 rfl hT hA ⟨by decide, by decide⟩ rfl rfl ?_
        first | refine z_ta0 lX11_154 eX11_haste_41 rfl hT hD (by decide) rfl rfl ?_ | refine z_ta lX11_154 eX11_haste_41 rfl hT hD ⟨by decide, by decide⟩ rfl rfl ?_
        refine z_il3 eX11_haste_44 ?_
        refine z_il2 eX11_haste_45 ?_
        refine z_V2 eX11_haste_46 vX11_297 rfl rfl (Nat.le_of_ble_eq_true rfl) (Nat.le_of_ble_eq_true rfl) ((hD.mo).L0 hT (by decide)) (c_X6_hastierThan hT hD.mo hN.mo hM.I ⟨i0, by omega⟩) ?_
        refine z_il1 eX11_haste_49 ?_
        refine z_icmp_ne (tgt := 55) eX11_haste_50 rfl ⟨⟨by omega, by omega⟩, ⟨by omega, by omega⟩⟩ (fun h50 => ?_) (fun h50 => ?_)
        · refine z_ii3 eX11_haste_55 (Nat.ne_of_beq_eq_false rfl) ?_
          refine z_goto eX11_haste_58 (tgt := 14) rfl ?_
          first | (have e3 := h50; rw [zif_f (fun z => by omega)] at hV; exact ih (i + 1) (by omega) (by omega) hV) | (rw [zif_f (fun z => by have := hw.mpr ⟨by omega, z.1⟩; omega)] at hV; exact ih (i + 1) (by omega) (by omega) hV) | fail
        · refine z_il3 eX11_haste_53 ?_
          refine z_ireturn eX11_haste_54 rfl ?_
          rw [zif_t ⟨(hw.mp (by omega)).2, by omega⟩] at hV
          rw [hV]
          exact ⟨rfl, rfl, rfl, rfl⟩
  refine z_al0 eX11_haste_0 hne ?_
  first | refine z_ta0 lX11_20 eX11_haste_1 rfl hT hA (by decide) rfl rfl ?_ | refine z_ta lX11_20 eX11_haste_1 rfl hT hA ⟨by decide, by decide⟩ rfl rfl ?_
  first | refine z_ta0 lX11_154 eX11_haste_4 rfl hT hD (by decide) rfl rfl ?_ | refine z_ta lX11_154 eX11_haste_4 rfl hT hD ⟨by decide, by decide⟩ rfl rfl ?_
  refine z_iconst eX11_haste_7 ?_
  refine z_V1 eX11_haste_8 vX11_270 rfl rfl (Nat.le_of_ble_eq_true rfl) (Nat.le_of_ble_eq_true rfl) ((hD.mo).L0 hT (by decide)) (c_X6_inState hT hD.mo hN.mo hM.I (by decide)) ?_
  refine z_is2 eX11_haste_11 (Nat.ne_of_beq_eq_false rfl) ?_
  refine z_iconst eX11_haste_12 ?_
  refine z_is3 eX11_haste_13 (Nat.ne_of_beq_eq_false rfl) ?_
  have e : (((M 4 - 0).toNat : Nat) : Int) = M 4 := by omega
  exact hl _ (M 4 - 0).toNat 0 (by omega) (by decide) rfl
theorem c_X11_posts {G : zG} {lay : zLay} {σ C0 : zMem} {nx x : Int} (hT : TopL lay x) {n : Int} {M : Int → Int} (hN : CoN σ (0 + 2) M) (hM : zOC M) (hn : zin n) : zMM G 8 KX11_posts [zP (x + 0), zI n] lay (tC x σ C0) nx (1, 6) (zGd (n = -1 ∨ 0 ≤ n ∧ n < M 3) zEb lay (tC x σ C0) nx (zZ' (some (zI (qPosts M n))) (fun q => zOut 311 1 σ q) lay C0 nx x)) := by
  refine z_met' (L := [zP (x + 0), zI n]) gX11_posts.1 rfl rfl (Nat.le_of_ble_eq_true rfl) rfl ?_
  have hA := TpAt
  have hx := hT.1
  have hne : x + 0 ≠ -1 := by omega
  have hD := isCo.now
  have hm3 := hM.I.m3
  unfold qPosts
  refine z_il1 eX11_posts_0 ?_
  refine z_iconst eX11_posts_1 ?_
  refine z_icmp_eq (tgt := 10) eX11_posts_2 rfl ⟨⟨by omega, by omega⟩, ⟨by omega, by omega⟩⟩ (fun h2 => ?_) (fun h2 => ?_)
  · refine z_al0 eX11_posts_10 hne ?_
    first | refine z_ta0 lX11_65 eX11_posts_11 rfl hT hA (by decide) rfl rfl ?_ | refine z_ta lX11_65 eX11_posts_11 rfl hT hA ⟨by decide, by decide⟩ rfl rfl ?_
    refine z_al0 eX11_posts_14 hne ?_
    first | refine z_ta0 lX11_20 eX11_posts_15 rfl hT hA (by decide) rfl rfl ?_ | refine z_ta lX11_20 eX11_posts_15 rfl hT hA ⟨by decide, by decide⟩ rfl rfl ?_
    refine z_V1vz eX11_posts_18 vX11_338 rfl rfl (Nat.le_of_ble_eq_true rfl) (Nat.le_of_ble_eq_true rfl) ((PlAt).L0 hT (by decide)) (c_X7_planPosts hT hD (by decide) hN hM.ol.1) (fun s18 hs18 => ?_)
    have hq := hs18.2 0 (by decide) (by decide) (by decide) (by rw [show qCnt 0 = 0 by decide]; exact hm3.1)
    rw [show qCnt 0 = 0 by decide] at hq
    have hN2 : CoN s18 (0 + 2) M := hN.far (fun i i0 i1 => hs18.1 _ (by omega))
    refine z_il1 eX11_posts_21 ?_
    refine z_iconst eX11_posts_22 ?_
    refine z_icmp_ne (tgt := 36) eX11_posts_23 rfl ⟨⟨by omega, by omega⟩, ⟨by omega, by omega⟩⟩ (fun h23 => ?_) (fun h23 => ?_)
    · refine z_al0 eX11_posts_36 hne ?_
      first | refine z_ta0 lX11_65 eX11_posts_37 rfl hT hA (by decide) rfl rfl ?_ | refine z_ta lX11_65 eX11_posts_37 rfl hT hA ⟨by decide, by decide⟩ rfl rfl ?_
      refine z_il1 eX11_posts_40 ?_
      refine z_al0 eX11_posts_41 hne ?_
      first | refine z_ta0 lX11_20 eX11_posts_42 rfl hT hA (by decide) rfl rfl ?_ | refine z_ta lX11_20 eX11_posts_42 rfl hT hA ⟨by decide, by decide⟩ rfl rfl ?_
      refine z_V2 eX11_posts_45 vX11_341 rfl rfl (Nat.le_of_ble_eq_true rfl) (Nat.le_of_ble_eq_true rfl) ((PlAt).L0 hT (by decide)) (c_X7_placeOf hT hD hN2 hM.ol.1 hs18.2 ⟨by omega, by omega⟩) ?_
      refine z_ireturn eX11_posts_48 rfl ?_
      rw [if_neg (show ¬ n = -1 by omega)]
      exact Or.inl ⟨by omega, zZe hs18.1 rfl⟩
    · refine z_al0 eX11_posts_26 hne ?_
      first | refine z_ta0 lX11_65 eX11_posts_27 rfl hT hA (by decide) rfl rfl ?_ | refine z_ta lX11_65 eX11_posts_27 rfl hT hA ⟨by decide, by decide⟩ rfl rfl ?_
      first | refine z_ta0 lX11_284 eX11_posts_30 rfl hT PlAt (by decide) rfl rfl ?_ | refine z_ta lX11_284 eX11_posts_30 rfl hT PlAt ⟨by decide, by decide⟩ rfl rfl ?_
      refine z_iconst eX11_posts_33 ?_
      refine z_tl eX11_posts_34 hT PlAt ⟨by decide, by decide⟩ rfl rfl ⟨by omega, by omega⟩ ?_
      rw [show s18 (0 + 310 + 1) 0 = qPoT M 0 0 from hq]
      refine z_ireturn eX11_posts_35 rfl ?_
      rw [if_pos (show n = -1 by omega)]
      exact Or.inl ⟨by omega, zZe hs18.1 rfl⟩
  · refine z_al0 eX11_posts_5 hne ?_
    refine z_il1 eX11_posts_6 ?_
    refine z_ndV1 (n := 0) eX11_posts_7 vX11_131 rfl rfl (Nat.le_of_ble_eq_true rfl) (Nat.le_of_ble_eq_true rfl) (hA.L0 hT (by decide)) (c_X11_needMember hT hN hM.I (by assumption)) (fun hP7 => ?_) (fun hN7 => (by first | exact Or.inr ⟨(by first | assumption | exact ⟨by omega, by omega⟩ | omega), rfl, rfl, rfl, rfl⟩))
    refine z_al0 eX11_posts_10 hne ?_
    first | refine z_ta0 lX11_65 eX11_posts_11 rfl hT hA (by decide) rfl rfl ?_ | refine z_ta lX11_65 eX11_posts_11 rfl hT hA ⟨by decide, by decide⟩ rfl rfl ?_
    refine z_al0 eX11_posts_14 hne ?_
    first | refine z_ta0 lX11_20 eX11_posts_15 rfl hT hA (by decide) rfl rfl ?_ | refine z_ta lX11_20 eX11_posts_15 rfl hT hA ⟨by decide, by decide⟩ rfl rfl ?_
    refine z_V1vz eX11_posts_18 vX11_338 rfl rfl (Nat.le_of_ble_eq_true rfl) (Nat.le_of_ble_eq_true rfl) ((PlAt).L0 hT (by decide)) (c_X7_planPosts hT hD (by decide) hN hM.ol.1) (fun s18 hs18 => ?_)
    have hq := hs18.2 0 (by decide) (by decide) (by decide) (by rw [show qCnt 0 = 0 by decide]; exact hm3.1)
    rw [show qCnt 0 = 0 by decide] at hq
    have hN2 : CoN s18 (0 + 2) M := hN.far (fun i i0 i1 => hs18.1 _ (by omega))
    refine z_il1 eX11_posts_21 ?_
    refine z_iconst eX11_posts_22 ?_
    refine z_icmp_ne (tgt := 36) eX11_posts_23 rfl ⟨⟨by omega, by omega⟩, ⟨by omega, by omega⟩⟩ (fun h23 => ?_) (fun h23 => ?_)
    · refine z_al0 eX11_posts_36 hne ?_
      first | refine z_ta0 lX11_65 eX11_posts_37 rfl hT hA (by decide) rfl rfl ?_ | refine z_ta lX11_65 eX11_posts_37 rfl hT hA ⟨by decide, by decide⟩ rfl rfl ?_
      refine z_il1 eX11_posts_40 ?_
      refine z_al0 eX11_posts_41 hne ?_
      first | refine z_ta0 lX11_20 eX11_posts_42 rfl hT hA (by decide) rfl rfl ?_ | refine z_ta lX11_20 eX11_posts_42 rfl hT hA ⟨by decide, by decide⟩ rfl rfl ?_
      refine z_V2 eX11_posts_45 vX11_341 rfl rfl (Nat.le_of_ble_eq_true rfl) (Nat.le_of_ble_eq_true rfl) ((PlAt).L0 hT (by decide)) (c_X7_placeOf hT hD hN2 hM.ol.1 hs18.2 ⟨by omega, by omega⟩) ?_
      refine z_ireturn eX11_posts_48 rfl ?_
      rw [if_neg (show ¬ n = -1 by omega)]
      exact Or.inl ⟨by omega, zZe hs18.1 rfl⟩
    · refine z_al0 eX11_posts_26 hne ?_
      first | refine z_ta0 lX11_65 eX11_posts_27 rfl hT hA (by decide) rfl rfl ?_ | refine z_ta lX11_65 eX11_posts_27 rfl hT hA ⟨by decide, by decide⟩ rfl rfl ?_
      first | refine z_ta0 lX11_284 eX11_posts_30 rfl hT PlAt (by decide) rfl rfl ?_ | refine z_ta lX11_284 eX11_posts_30 rfl hT PlAt ⟨by decide, by decide⟩ rfl rfl ?_
      refine z_iconst eX11_posts_33 ?_
      refine z_tl eX11_posts_34 hT PlAt ⟨by decide, by decide⟩ rfl rfl ⟨by omega, by omega⟩ ?_
      rw [show s18 (0 + 310 + 1) 0 = qPoT M 0 0 from hq]
      refine z_ireturn eX11_posts_35 rfl ?_
      rw [if_pos (show n = -1 by omega)]
      exact Or.inl ⟨by omega, zZe hs18.1 rfl⟩
