/-! What a member feels. -/
def zOC (M : Int → Int) : Prop := (zOL M) ∧ (zPap M) ∧ (∀ k, 0 ≤ k → k < M 4 → M (74 + 5 * k + 0) < M 3) ∧ (∀ h, 0 ≤ h → h < 12 → M (114 + h) < M 4)
theorem zOC.ol {M : Int → Int} (h : zOC M) : zOL M := h.1
theorem zOC.pap {M : Int → Int} (h : zOC M) : zPap M := h.2.1
theorem zOC.mv {M : Int → Int} (h : zOC M) : ∀ k, 0 ≤ k → k < M 4 → M (74 + 5 * k + 0) < M 3 := h.2.2.1
theorem zOC.pa {M : Int → Int} (h : zOC M) : ∀ h, 0 ≤ h → h < 12 → M (114 + h) < M 4 := h.2.2.2
theorem zOC.I {M : Int → Int} (h : zOC M) : zInv M := h.ol.1.1
theorem qAsk_law {lay : zLay} {x : Int} {C0 : zMem} {w n : Int} {M F : Int → Int} {p s k h : Int} (hL : LwM lay x C0 w n M) (hM : zOL M) (h1 : 0 ≤ M 1) (hp : 0 ≤ p ∧ p < 7) (hs : 0 ≤ s ∧ s < 5) (hk : -1 ≤ k ∧ k < 8) (hh : 0 ≤ h ∧ h < 12) (hF : ∀ j, 0 ≤ j → j < 10 → F j = qFa M p s k h j) : ∃ V, LwRun C0 w F V ∧ qAsk M p s k h = (qSumL C0 w 0 V (C0 w 0) - qSumL C0 w 1 V (C0 w 0), zbi (∃ i, (0 ≤ i ∧ i < C0 w 0) ∧ C0 (w + 1) i = 2), zbi (0 < qSumL C0 w 2 V (C0 w 0))) := by
  have hq : ∀ j, 0 ≤ j → j < 7 → F j = qFacts M p s k h j := fun j j0 j1 => by rw [hF j j0 (by omega)]; unfold qFa; rw [if_neg (by omega), if_neg (by omega), if_neg (by omega)]
  have f7 : F 7 = qHat M p := hF 7 (by decide) (by decide)
  have f9 : F 9 = qMov M p k := hF 9 (by decide) (by decide)
  have f8 : F 8 = zbi (1 < s) := hF 8 (by decide) (by decide)
  have f3 : F 3 = s := hq 3 (by decide) (by decide)
  have hz := qFacts_bd hM.1 hp hs hk hh
  have hok : qFaOK F := by
    refine ⟨fun j j0 j1 => by rw [hq j j0 j1]; exact hz j j0 j1, by rw [f7]; exact qHat_01 M p, by rw [f9]; exact qMov_01 M p k, by rw [f8, f3]⟩
  obtain ⟨V, v1, v2⟩ := hL.S (fun i => M (426 + i)) (fun _ _ _ => rfl) F hok
  refine ⟨V, v1, ?_⟩
  rw [← v2]
  unfold qAsk
  have hn := hL.n1
  by_cases h0 : M 1 < 1
  · rw [if_pos h0, v2, show C0 w 0 = 0 by omega]
    rw [zbi_f (p := ∃ i, (0 ≤ i ∧ i < 0) ∧ C0 (w + 1) i = 2) (fun ⟨i, q, _⟩ => by omega)]
    rw [show zbi (0 < qSumL C0 w 2 V 0) = 0 from zbi_f (show ¬ (0 : Int) < 0 by decide)]
    rfl
  · rw [if_neg h0, f7, f9]
    rw [show qAtom (fun i => M (426 + i)) (M 2) F (qHat M p) (qMov M p k) 6 = qAtom (fun i => M (426 + i)) (M 2) (qFacts M p s k h) (qHat M p) (qMov M p k) 6 from qAtom_c hq _ _ 6]
noncomputable def qFeltO (M : Int → Int) (p s k h O : Int) : Int := if M 1 = -1 ∧ M (46 + 4 * p + 2) = 1 then 0 else qClamp ((if s = 2 ∧ zbit O p = 1 then M (38 + M (46 + 4 * p + 0)) else 0) + (qAsk M p s k h).1)
theorem qFeltO_bd (M : Int → Int) (p s k h O : Int) : 0 ≤ qFeltO M p s k h O ∧ qFeltO M p s k h O ≤ 20 := by
  unfold qFeltO
  split
  · omega
  · exact qClamp_bd _
theorem qFeltO_q {M : Int → Int} (hM : zOK M) {p s k h : Int} (hp : 0 ≤ p ∧ p < M 3) : qFeltO M p s k h (qOuts M) = qFelt M p s k h := by
  have hm3 := hM.1.m3
  have := qOuts_B hM (p := p) ⟨hp.1, by omega⟩
  unfold qFeltO qFelt qSkyOn
  by_cases e : M (46 + 4 * p + 3) = 1
  · rw [show zbit (qOuts M) p = 1 from this.mpr ⟨hp.2, e⟩, e]
  · rw [if_neg (c := s = 2 ∧ zbit (qOuts M) p = 1) (fun z => e (this.mp z.2).2), if_neg (c := s = 2 ∧ M (46 + 4 * p + 3) = 1) (fun z => e z.2)]
theorem qClamp_m (v : Int) : (if 0 < (if v < 20 then v else 20) then (if v < 20 then v else 20) else 0) = qClamp v := by
  unfold qClamp
  (repeat' split) <;> omega
theorem c_X1_feels {G : zG} {lay : zLay} {σ C0 : zMem} {nx x b : Int} (hT : TopL lay x) {p s k h O : Int} {M : Int → Int} (hA : CoAt b) (hN : CoN σ b M) (hL : CoL lay x C0 (σ b 10) M) (hM : zOL M) (hp : 0 ≤ p ∧ p < M 3) (hs : 0 ≤ s ∧ s < 5) (hk : k = -1 ∨ 0 ≤ k ∧ k < M 4) (hh : 0 ≤ h ∧ h < 12) : zMM G 4 KX1_feels [zP (x + b), zI p, zI s, zI k, zI h, zI O] lay (tC x σ C0) nx (0, 0) (zY' (some (zI (qFeltO M p s k h O))) (fun q C => zOut (b + 17) 1 σ q ∧ zStk C0 (σ b 10) C) lay nx x) := by
  refine z_met' (L := [zP (x + b), zI p, zI s, zI k, zI h, zI O, zU, zU, zU]) gX1_feels.1 rfl rfl (Nat.le_of_ble_eq_true rfl) rfl ?_
  have hb0 := hA.b0 (by decide)
  have hx := hT.1
  have hne : x + b ≠ -1 := by omega
  have hI := hM.1.1
  have hm3 := hI.m3
  have hm4 := hI.m4
  have hU := hI.U (p := p) ⟨hp.1, by omega⟩
  have hE := hI.E (k := M (46 + 4 * p + 0)) ⟨by omega, by omega⟩
  have hpl := hN.pl p hp.1 hp.2
  have hex := hN.ex _ hU.1.1 (by omega)
  have hha := qHats_B hI hp
  have z01 := zbit_01 O p
  have w44 : ∀ a v : Int, v = (if s = 2 ∧ zbit O p = 1 then M (38 + M (46 + 4 * p + 0)) else 0) → zW G KX1_feels 4 (zY' (some (zI (qFeltO M p s k h O))) (fun q C => zOut (b + 17) 1 σ q ∧ zStk C0 (σ b 10) C) lay nx x) 44 [zP (x + b), zI p, zI s, zI k, zI h, zI O, zI a, zI v, zU] [] lay (tC x σ C0) nx (0, 0) := by
    intro a v hv
    have hvb : 0 ≤ v ∧ v ≤ 9 := by rw [hv]; split <;> omega
    rcases hL with ⟨h1, hL⟩ | ⟨h1, n, hL⟩
    · have hq0 : M (46 + 4 * p + 2) = 1 → 0 = qFeltO M p s k h O := by
        intro z; unfold qFeltO; rw [if_pos ⟨h1, z⟩]
      have hq1 : ¬ M (46 + 4 * p + 2) = 1 → v = qFeltO M p s k h O := by
        intro z
        unfold qFeltO
        rw [if_neg (c := M 1 = -1 ∧ M (46 + 4 * p + 2) = 1) (fun q => z q.2), ← hv]
        unfold qAsk
        rw [if_pos (show M 1 < 1 by omega), Int.add_zero]
        unfold qClamp
        (repeat' split) <;> omega
      refine z_al0 eX1_feels_44 hne ?_
      first | refine z_td0 (j := 10) lX1_81 eX1_feels_45 rfl hT hA (by decide) rfl rfl rfl ?_ | refine z_td (j := 10) lX1_81 eX1_feels_45 rfl hT hA ⟨by decide, by decide⟩ rfl rfl rfl ?_
      rw [hL]
      refine z_ifnonnull (tgt := 70) eX1_feels_48 rfl (fun h48 => (by exfalso; omega)) (fun h48 => ?_)
      refine z_al0 eX1_feels_51 hne ?_
      first | refine z_tg0 (j := 4) lX1_75 eX1_feels_52 rfl hT hA (by decide) rfl rfl rfl ?_ | refine z_tg (j := 4) lX1_75 eX1_feels_52 rfl hT hA ⟨by decide, by decide⟩ rfl rfl rfl ?_
      rw [hN.ha]
      refine z_il1 eX1_feels_55 ?_
      refine z_N2 eX1_feels_56 vX1_101 rfl (Nat.le_of_ble_eq_true rfl) (Nat.le_of_ble_eq_true rfl) (c_X11_bitOf hT ⟨by omega, by omega⟩) ?_
      rw [hha]
      refine z_iconst eX1_feels_59 ?_
      refine z_icmp_ne (tgt := 67) eX1_feels_60 rfl ⟨⟨by omega, by omega⟩, ⟨by omega, by omega⟩⟩ (fun h60 => ?_) (fun h60 => ?_)
      · refine z_il7 eX1_feels_67 ?_
        refine z_ireturn eX1_feels_69 rfl ?_
        first | exact zYe ⟨zOut.refl _ _ _, zStk.refl _ _⟩ (hq0 (by omega)) | exact zYe ⟨zOut.refl _ _ _, zStk.refl _ _⟩ (hq1 (by omega)) | fail
      · refine z_iconst eX1_feels_63 ?_
        refine z_goto eX1_feels_64 (tgt := 69) rfl ?_
        refine z_ireturn eX1_feels_69 rfl ?_
        first | exact zYe ⟨zOut.refl _ _ _, zStk.refl _ _⟩ (hq0 (by omega)) | exact zYe ⟨zOut.refl _ _ _, zStk.refl _ _⟩ (hq1 (by omega)) | fail
    · have hLA := hL.A
      have hp0 := hLA.p0
      generalize hw : σ b 10 = w at hL hLA hp0 ⊢
      refine z_al0 eX1_feels_44 hne ?_
      first | refine z_td0 (j := 10) lX1_81 eX1_feels_45 rfl hT hA (by decide) rfl rfl rfl ?_ | refine z_td (j := 10) lX1_81 eX1_feels_45 rfl hT hA ⟨by decide, by decide⟩ rfl rfl rfl ?_
      rw [hw]
      refine z_ifnonnull (tgt := 70) eX1_feels_48 rfl (fun h48 => ?_) (fun h48 => (by exfalso; omega))
      refine z_al0 eX1_feels_70 hne ?_
      refine z_il1 eX1_feels_71 ?_
      refine z_il2 eX1_feels_72 ?_
      refine z_il3 eX1_feels_73 ?_
      refine z_il4 eX1_feels_74 ?_
      refine z_V4vz eX1_feels_76 vX1_119 rfl rfl (Nat.le_of_ble_eq_true rfl) (Nat.le_of_ble_eq_true rfl) ((hA).L0 hT (by decide)) (c_X1_fillFacts hT hA hN hI hp hs hk hh) (fun s76 hs76 => ?_)
      obtain ⟨V, v1, v2⟩ := qAsk_law hL hM h1 ⟨hp.1, by omega⟩ hs ⟨by omega, by omega⟩ hh hs76.2
      have hqe : v + qSumL C0 w 0 V (C0 w 0) - qSumL C0 w 1 V (C0 w 0) = (if s = 2 ∧ zbit O p = 1 then M (38 + M (46 + 4 * p + 0)) else 0) + (qAsk M p s k h).1 := by rw [v2, ← hv]; dsimp only; omega
      refine z_il7 eX1_feels_79 ?_
      refine z_al0 eX1_feels_81 hne ?_
      first | refine z_td0 (j := 10) lX1_81 eX1_feels_82 rfl hT hA (by decide) rfl rfl rfl ?_ | refine z_td (j := 10) lX1_81 eX1_feels_82 rfl hT hA ⟨by decide, by decide⟩ rfl rfl rfl ?_
      rw [hs76.1 b (by omega), hw]
      refine z_iconst eX1_feels_85 ?_
      refine z_al0 eX1_feels_86 hne ?_
      first | refine z_ta0 lX1_60 eX1_feels_87 rfl hT hA (by decide) rfl rfl ?_ | refine z_ta lX1_60 eX1_feels_87 rfl hT hA ⟨by decide, by decide⟩ rfl rfl ?_
      refine z_V2y eX1_feels_90 vX1_123 rfl rfl (Nat.le_of_ble_eq_true rfl) (Nat.le_of_ble_eq_true rfl) hLA.l0 (c_X3_sumOf hT hA hLA hL.F hL.B v1 (by decide)) (fun s90 C90 hs90 => ?_)
      obtain ⟨q1, q2⟩ := hs90
      subst q1
      refine z_iadd eX1_feels_93 ?_
      refine z_al0 eX1_feels_94 hne ?_
      first | refine z_td0 (j := 10) lX1_81 eX1_feels_95 rfl hT hA (by decide) rfl rfl rfl ?_ | refine z_td (j := 10) lX1_81 eX1_feels_95 rfl hT hA ⟨by decide, by decide⟩ rfl rfl rfl ?_
      rw [hs76.1 b (by omega), hw]
      refine z_iconst eX1_feels_98 ?_
      refine z_al0 eX1_feels_99 hne ?_
      first | refine z_ta0 lX1_60 eX1_feels_100 rfl hT hA (by decide) rfl rfl ?_ | refine z_ta lX1_60 eX1_feels_100 rfl hT hA ⟨by decide, by decide⟩ rfl rfl ?_
      refine z_V2y eX1_feels_103 vX1_123 rfl rfl (Nat.le_of_ble_eq_true rfl) (Nat.le_of_ble_eq_true rfl) hLA.l0 (c_X3_sumOf hT hA hLA (hL.F.cg q2.same.1) (hL.B.cg q2.same) (v1.cg q2.same) (by decide)) (fun s103 C103 hs103 => ?_)
      obtain ⟨q3, q4⟩ := hs103
      subst q3
      rw [q2.same.1, qSumL_cg q2.same]
      have b1 := qSumL_bd (k := 0) (V := V) hL.B ⟨hL.B.1.1, Int.le_refl _⟩
      have b2 := qSumL_bd (k := 1) (V := V) hL.B ⟨hL.B.1.1, Int.le_refl _⟩
      have b3 := hL.B.1
      refine z_isub eX1_feels_106 ?_
      refine z_is8 eX1_feels_107 (Nat.ne_of_beq_eq_false rfl) ?_
      refine z_iconst eX1_feels_109 ?_
      refine z_bipush eX1_feels_110 (by decide) ?_
      refine z_il8 eX1_feels_112 ?_
      refine z_min eX1_feels_114 vX1_127 rfl (Nat.le_of_ble_eq_true rfl) (Nat.le_of_ble_eq_true rfl) ⟨⟨by omega, by omega⟩, ⟨by omega, by omega⟩⟩ ?_
      refine z_max eX1_feels_117 vX1_132 rfl (Nat.le_of_ble_eq_true rfl) (Nat.le_of_ble_eq_true rfl) ⟨⟨by omega, by omega⟩, ⟨by omega, by omega⟩⟩ ?_
      rw [qClamp_m, hqe]
      refine z_ireturn eX1_feels_120 rfl ?_
      refine zYe ⟨hs76.1, q2.trans q4⟩ ?_
      unfold qFeltO
      rw [if_neg (c := M 1 = -1 ∧ M (46 + 4 * p + 2) = 1) (fun z => by omega)]
  refine z_il2 eX1_feels_0 ?_
  refine z_iconst eX1_feels_1 ?_
  refine z_icmp_ne (tgt := 19) eX1_feels_2 rfl ⟨⟨by omega, by omega⟩, ⟨by omega, by omega⟩⟩ (fun h2 => ?_) (fun h2 => ?_)
  · refine z_iconst eX1_feels_19 ?_
    refine z_is6 eX1_feels_20 (Nat.ne_of_beq_eq_false rfl) ?_
    refine z_il6 eX1_feels_22 ?_
    refine z_if_eq (tgt := 41) eX1_feels_24 rfl ⟨by omega, by omega⟩ (fun h24 => ?_) (fun h24 => (by exfalso; omega))
    refine z_iconst eX1_feels_41 ?_
    refine z_is7 eX1_feels_42 (Nat.ne_of_beq_eq_false rfl) ?_
    first | exact w44 _ _ (by rw [if_pos (by omega)]) | exact w44 _ _ (by rw [if_neg (by omega)]) | fail
  · refine z_il5 eX1_feels_5 ?_
    refine z_il1 eX1_feels_7 ?_
    refine z_N2 eX1_feels_8 vX1_101 rfl (Nat.le_of_ble_eq_true rfl) (Nat.le_of_ble_eq_true rfl) (c_X11_bitOf hT ⟨by omega, by omega⟩) ?_
    refine z_iconst eX1_feels_11 ?_
    refine z_icmp_ne (tgt := 19) eX1_feels_12 rfl ⟨⟨by omega, by omega⟩, ⟨by omega, by omega⟩⟩ (fun h12 => ?_) (fun h12 => ?_)
    · refine z_iconst eX1_feels_19 ?_
      refine z_is6 eX1_feels_20 (Nat.ne_of_beq_eq_false rfl) ?_
      refine z_il6 eX1_feels_22 ?_
      refine z_if_eq (tgt := 41) eX1_feels_24 rfl ⟨by omega, by omega⟩ (fun h24 => ?_) (fun h24 => (by exfalso; omega))
      refine z_iconst eX1_feels_41 ?_
      refine z_is7 eX1_feels_42 (Nat.ne_of_beq_eq_false rfl) ?_
      first | exact w44 _ _ (by rw [if_pos (by omega)]) | exact w44 _ _ (by rw [if_neg (by omega)]) | fail
    · refine z_iconst eX1_feels_15 ?_
      refine z_goto eX1_feels_16 (tgt := 20) rfl ?_
      refine z_is6 eX1_feels_20 (Nat.ne_of_beq_eq_false rfl) ?_
      refine z_il6 eX1_feels_22 ?_
      refine z_if_eq (tgt := 41) eX1_feels_24 rfl ⟨by omega, by omega⟩ (fun h24 => (by exfalso; omega)) (fun h24 => ?_)
      refine z_al0 eX1_feels_27 hne ?_
      first | refine z_ta0 lX1_18 eX1_feels_28 rfl hT hA (by decide) rfl rfl ?_ | refine z_ta lX1_18 eX1_feels_28 rfl hT hA ⟨by decide, by decide⟩ rfl rfl ?_
      refine z_al0 eX1_feels_31 hne ?_
      first | refine z_ta0 lX1_9 eX1_feels_32 rfl hT hA (by decide) rfl rfl ?_ | refine z_ta lX1_9 eX1_feels_32 rfl hT hA ⟨by decide, by decide⟩ rfl rfl ?_
      refine z_il1 eX1_feels_35 ?_
      refine z_tl eX1_feels_36 hT hA ⟨by decide, by decide⟩ rfl rfl ⟨by omega, by omega⟩ ?_
      rw [hpl]
      refine z_tl eX1_feels_37 hT hA ⟨by decide, by decide⟩ rfl rfl ⟨by omega, by omega⟩ ?_
      rw [hex]
      refine z_goto eX1_feels_38 (tgt := 42) rfl ?_
      refine z_is7 eX1_feels_42 (Nat.ne_of_beq_eq_false rfl) ?_
      first | exact w44 _ _ (by rw [if_pos (by omega)]) | exact w44 _ _ (by rw [if_neg (by omega)]) | fail
