/-! An hour goes by: the walk. -/
noncomputable def qRunV (M : Int → Int) : Int := zif (qComes (qSkyed M) (qSkyed M (114 + qSkyed M 6))) (qGo (qSkyed M) (qSkyed M (114 + qSkyed M 6)) (qSkyed M 5) (qSkyed M 6)) 0
theorem qPassM_OC {M : Int → Int} (h : zOC M) : zOC (qPassM M) := by
  refine h.m (qPassM_OL h.ol) (fun j hj => ?_)
  have h6 := h.I.s 6 rfl (by omega)
  have hk := h.I.P8 (t := M 6) ⟨by omega, by omega⟩
  have ek : qSkyed M (114 + qSkyed M 6) = M (114 + M 6) := by rw [qSkyed_f (j := 6) (by decide), qSkyed_f (by omega)]
  unfold qPassM qCame
  rw [ek]
  rw [qHourOn_j (by omega)]
  by_cases hc : qComes (qSkyed M) (M (114 + M 6))
  · have := hc.1
    rw [zif_t hc, qLog_j (by omega) (by omega), zput_ne (by omega), qSkyed_f (by omega)]
  · rw [zif_f hc, qSkyed_f (by omega)]
/-- only council b, but for its law's letters, and the stack of that law have changed -/
def zRn (b : Int) (σ C0 s C : zMem) : Prop := zOut b 18 σ s ∧ s b 10 = σ b 10 ∧ zStk C0 (σ b 10) C
theorem zRn.refl (b : Int) (σ C0 : zMem) : zRn b σ C0 σ C0 := ⟨zOut.refl _ _ _, rfl, zStk.refl _ _⟩
theorem zRn.trans {b : Int} {σ C0 s C t D : zMem} (h : zRn b σ C0 s C) (h2 : zRn b s C t D) : zRn b σ C0 t D := ⟨h.1.trans h2.1, h2.2.1.trans h.2.1, h.2.2.trans (by have := h2.2.2; rwa [h.2.1] at this)⟩
theorem zFc.rn {b : Int} {σ C0 s C : zMem} (h : zFc b σ C0 s C) : zRn b σ C0 s C := ⟨h.1.sub ⟨by omega, by omega⟩, by rw [h.1.cell], h.2⟩
theorem c_X1_runHour {G : zG} {lay : zLay} {σ C0 : zMem} {nx x b : Int} (hT : TopL lay x) {M : Int → Int} (hA : CoAt b) (hR : CoR lay x C0 σ b M) (hM : zOC M) : zMM G 6 KX1_runHour [zP (x + b)] lay (tC x σ C0) nx (0, 0) (zY' (some (zI (qRunV M))) (fun q C => zRn b σ C0 q C ∧ CoR lay x C q b (qPassM M)) lay nx x) := by
  refine z_met' (L := [zP (x + b), zU, zU]) gX1_runHour.1 rfl rfl (Nat.le_of_ble_eq_true rfl) rfl ?_
  have hb0 := hA.b0 (by decide)
  have hx := hT.1
  have hne : x + b ≠ -1 := by omega
  have hI0 := hM.I
  obtain ⟨M1, h1⟩ : ∃ M1, qSkyed M = M1 := ⟨_, rfl⟩
  have f1 : ∀ j, j ≠ 5 ∧ j ≠ 12 → M1 j = M j := fun j hj => by rw [← h1]; exact qSkyed_f hj
  have hM1 : zOC M1 := hM.m (by rw [← h1]; exact qSkyed_OL hM.ol) (fun j hj => f1 j (by omega))
  have hI := hM1.I
  have hm3 := hI.m3
  have hm4 := hI.m4
  have hm11 := hI.m11
  have h5 := hI.s 5 rfl (by omega)
  have h6 := hI.s 6 rfl (by omega)
  have ho := qOuts_256 hM1.ol.1
  obtain ⟨k, hk⟩ : ∃ k, M1 (114 + M1 6) = k := ⟨_, rfl⟩
  have hk1 := hM1.pa (M1 6) (by omega) (by omega)
  have hk2 := hI.P8 (t := M1 6) ⟨by omega, by omega⟩
  rw [hk] at hk1 hk2
  have hqv : qRunV M = zif (qComes M1 k) (qGo M1 k (M1 5) (M1 6)) 0 := by unfold qRunV; rw [h1, hk]
  have hqm : qPassM M = qHourOn (qCame M1 k) := by unfold qPassM; rw [h1, hk]
  rw [hqv, hqm]
  obtain ⟨Q, hQ⟩ : ∃ Q, zY' (some (zI (zif (qComes M1 k) (qGo M1 k (M1 5) (M1 6)) 0))) (fun q C => zRn b σ C0 q C ∧ CoR lay x C q b (qHourOn (qCame M1 k))) lay nx x = Q := ⟨_, rfl⟩
  rw [hQ]
  have w121 : ∀ (v : Int) (S C : zMem) (y1 : zAV), v = zif (qComes M1 k) (qGo M1 k (M1 5) (M1 6)) 0 → zRn b σ C0 S C → CoR lay x C S b (qCame M1 k) → zW G KX1_runHour 6 Q 121 [zP (x + b), y1, zI v] [] lay (tC x S C) nx (0, 0) := by
    intro v S C y1 hv hS hR
    subst hQ
    have hO := qCame_OL hM1.ol (k := k) ⟨by omega, by omega⟩
    have hOi := hO.1.1
    have hOm3 := hOi.m3
    have hOm4 := hOi.m4
    have hOm11 := hOi.m11
    have f : ∀ j, j ≠ 6 ∧ j ≠ 7 → qHourOn (qCame M1 k) j = qCame M1 k j := fun j hj => qHourOn_j hj
    have hend : ∀ s : zMem, zOut (b + 4) 4 S s ∧ WeR s (b + 4) (qHourOn (qCame M1 k)) → zY' (some (zI (zif (qComes M1 k) (qGo M1 k (M1 5) (M1 6)) 0))) (fun q C => zRn b σ C0 q C ∧ CoR lay x C q b (qHourOn (qCame M1 k))) lay nx x (.inl (some (zI v))) lay (tC x s C) nx := by
      intro s hs
      have c0 : s b = S b := hs.1 _ (by omega)
      have hN : CoN s b (qHourOn (qCame M1 k)) := hR.1.of hOm3.2 c0 (hs.1 _ (by omega)) (hs.1 _ (by omega)) (hs.1 _ (by omega)) (fun j hj => f j (by omega)) hs.2 ((hR.1.mo.m hOm4.2 (fun j hj => f j (by omega))).out (fun i i0 i1 => hs.1 _ (by omega))) ((hR.1.lo.m hOm11.2 (fun j hj => f j (by omega))).out (hs.1 _ (by omega)) (hs.1 _ (by omega)))
      exact zYe ⟨hS.trans ⟨hs.1.sub ⟨by omega, by omega⟩, by rw [c0], zStk.refl _ _⟩, hR.of hN c0 (f 1 (by omega)) (f 2 (by omega)) (fun i i0 => f _ (by omega))⟩ hv
    refine z_al0 eX1_runHour_121 hne ?_
    first | refine z_ta0 lX1_40 eX1_runHour_122 rfl hT hA (by decide) rfl rfl ?_ | refine z_ta lX1_40 eX1_runHour_122 rfl hT hA ⟨by decide, by decide⟩ rfl rfl ?_
    refine z_V0vz eX1_runHour_125 vX1_192 rfl rfl (Nat.le_of_ble_eq_true rfl) (Nat.le_of_ble_eq_true rfl) ((hA.we).L0 hT (by decide)) (c_X9_passHour hT hA.we hR.1.we hO.1) (fun s125 hs125 => ?_)
    refine z_il2 eX1_runHour_128 ?_
    refine z_ireturn eX1_runHour_129 rfl ?_
    exact hend s125 hs125
  have w81 : qComes M1 k → ∀ (S C : zMem), zRn b σ C0 S C → CoR lay x C S b M1 → zW G KX1_runHour 6 Q 81 [zP (x + b), zI k, zI (qGo M1 k (M1 5) (M1 6))] [] lay (tC x S C) nx (0, 0) := by
    intro hc S C hS hR
    have hk0 : 0 ≤ k ∧ k < 8 := ⟨by have := hc.1; omega, by omega⟩
    obtain ⟨v, hv⟩ : ∃ v, qGo M1 k (M1 5) (M1 6) = v := ⟨_, rfl⟩
    have hvb := qGo_bd M1 k (M1 5) (M1 6)
    rw [hv] at hvb ⊢
    obtain ⟨M2, h2⟩ : ∃ M2, zput M1 (74 + 5 * k + 4) v = M2 := ⟨_, rfl⟩
    have f2 : ∀ j, j ≠ 74 + 5 * k + 4 → M2 j = M1 j := fun j hj => by rw [← h2]; exact zput_ne hj
    have e2 : M2 (74 + 5 * k + 4) = v := by rw [← h2]; exact zput_eq
    have hc2 : qCame M1 k = qLog M2 k := by unfold qCame; rw [zif_t hc, hv, h2]
    have hO2 : zOL M2 := by rw [← h2]; exact hM1.ol.put (Or.inr (by omega)) (by omega) (fun _ _ => Or.inr (by rw [zBd_V hk0 ⟨by decide, by decide⟩]; exact ⟨by show (0 : Int) ≤ v; omega, by show v ≤ 3; omega⟩))
    have hI2 := hO2.1.1
    have hmo2 : MoR (zset S (b + 8 + 5) k v) (b + 8) M2 := by
      obtain ⟨m1, m2, m3⟩ := hR.1.mo
      refine ⟨by rw [zset_o (by omega), f2 4 (by omega)]; exact m1, fun i i0 i1 => ?_, fun t t0 t1 => ?_⟩
      · rw [f2 4 (by omega)] at i1
        have := m2 i i0 i1
        rw [zset_o (by omega), zset_o (by omega), zset_o (by omega), zset_o (by omega), zset_at, f2 _ (by omega), f2 _ (by omega), f2 _ (by omega), f2 _ (by omega)]
        refine ⟨this.1, this.2.1, this.2.2.1, this.2.2.2.1, ?_⟩
        by_cases e : i = k
        · rw [if_pos ⟨rfl, e⟩, e, e2]
        · rw [if_neg (fun z => e z.2), f2 _ (by omega)]; exact this.2.2.2.2
      · rw [zset_o (by omega), f2 _ (by omega)]; exact m3 t t0 t1
    have o2 : ∀ o, o ≠ b + 8 + 5 → zset S (b + 8 + 5) k v o = S o := fun o q => zset_o q
    have hN2 : CoN (zset S (b + 8 + 5) k v) b M2 := hR.1.of hm3.2 (o2 _ (by omega)) (o2 _ (by omega)) (o2 _ (by omega)) (o2 _ (by omega)) (fun j hj => f2 j (by omega)) ((hR.1.we.m (fun j hj => f2 j (by omega))).out (o2 _ (by omega)) (o2 _ (by omega))) hmo2 ((hR.1.lo.m hm11.2 (fun j hj => f2 j (by omega))).out (o2 _ (by omega)) (o2 _ (by omega)))
    have hR2 : CoR lay x C (zset S (b + 8 + 5) k v) b M2 := hR.of hN2 (o2 _ (by omega)) (f2 1 (by omega)) (f2 2 (by omega)) (fun i i0 => f2 _ (by omega))
    have hS2 : zRn b σ C0 (zset S (b + 8 + 5) k v) C := hS.trans ⟨(zOut.refl _ _ _).set ⟨by omega, by omega⟩, by rw [o2 _ (by omega)], zStk.refl _ _⟩
    have hq7 := w121 v
    rw [hc2, zif_t hc, hv] at hq7
    have hlog : ∀ s : zMem, zOut (b + 15) 2 (zset S (b + 8 + 5) k v) s ∧ LoR s (b + 15) (qLog M2 k) → zRn b σ C0 s C ∧ CoR lay x C s b (qLog M2 k) := by
      intro s hs
      have hm11' := hI2.m11
      have g : ∀ j, (j < 126 ∨ 426 ≤ j) ∧ j ≠ 11 → qLog M2 k j = M2 j := fun j hj => qLog_j hj.1 hj.2
      have c0 : s b = zset S (b + 8 + 5) k v b := hs.1 _ (by omega)
      refine ⟨hS2.trans ⟨hs.1.sub ⟨by omega, by omega⟩, by rw [c0], zStk.refl _ _⟩, hR2.of ?_ c0 (g 1 (by omega)) (g 2 (by omega)) (fun i i0 => g _ (by omega))⟩
      exact hN2.of hI2.m3.2 c0 (hs.1 _ (by omega)) (hs.1 _ (by omega)) (hs.1 _ (by omega)) (fun j hj => g j (by omega)) ((hN2.we.m (fun j hj => g j (by omega))).out (hs.1 _ (by omega)) (hs.1 _ (by omega))) ((hN2.mo.m hI2.m4.2 (fun j hj => g j (by omega))).out (fun i i0 i1 => hs.1 _ (by omega))) hs.2
    have hadd := fun C => c_X5_addRow (G := G) (C0 := C) (nx := nx) hT hA.lo hN2.lo hI2 (k := k)
    rw [e2] at hadd
    have w5 := hN2.we.1
    refine z_al0 eX1_runHour_81 hne ?_
    first | refine z_ta0 lX1_47 eX1_runHour_82 rfl hT hA (by decide) rfl rfl ?_ | refine z_ta lX1_47 eX1_runHour_82 rfl hT hA ⟨by decide, by decide⟩ rfl rfl ?_
    first | refine z_ta0 lX1_179 eX1_runHour_85 rfl hT hA.mo (by decide) rfl rfl ?_ | refine z_ta lX1_179 eX1_runHour_85 rfl hT hA.mo ⟨by decide, by decide⟩ rfl rfl ?_
    refine z_il1 eX1_runHour_88 ?_
    refine z_il2 eX1_runHour_89 ?_
    refine z_ts eX1_runHour_90 hT hA.mo ⟨by decide, by decide⟩ rfl rfl ⟨by omega, by omega⟩ ?_
    refine z_al0 eX1_runHour_91 hne ?_
    first | refine z_ta0 lX1_54 eX1_runHour_92 rfl hT hA (by decide) rfl rfl ?_ | refine z_ta lX1_54 eX1_runHour_92 rfl hT hA ⟨by decide, by decide⟩ rfl rfl ?_
    refine z_al0 eX1_runHour_95 hne ?_
    first | refine z_ta0 lX1_40 eX1_runHour_96 rfl hT hA (by decide) rfl rfl ?_ | refine z_ta lX1_40 eX1_runHour_96 rfl hT hA ⟨by decide, by decide⟩ rfl rfl ?_
    first | refine z_tg0 (j := 2) lX1_185 eX1_runHour_99 rfl hT hA.we (by decide) rfl rfl rfl ?_ | refine z_tg (j := 2) lX1_185 eX1_runHour_99 rfl hT hA.we ⟨by decide, by decide⟩ rfl rfl rfl ?_
    rw [w5.2.2.1]
    refine z_al0 eX1_runHour_102 hne ?_
    first | refine z_ta0 lX1_40 eX1_runHour_103 rfl hT hA (by decide) rfl rfl ?_ | refine z_ta lX1_40 eX1_runHour_103 rfl hT hA ⟨by decide, by decide⟩ rfl rfl ?_
    first | refine z_tg0 (j := 1) lX1_164 eX1_runHour_106 rfl hT hA.we (by decide) rfl rfl rfl ?_ | refine z_tg (j := 1) lX1_164 eX1_runHour_106 rfl hT hA.we ⟨by decide, by decide⟩ rfl rfl rfl ?_
    rw [w5.2.1]
    refine z_il1 eX1_runHour_109 ?_
    refine z_al0 eX1_runHour_110 hne ?_
    first | refine z_ta0 lX1_40 eX1_runHour_111 rfl hT hA (by decide) rfl rfl ?_ | refine z_ta lX1_40 eX1_runHour_111 rfl hT hA ⟨by decide, by decide⟩ rfl rfl ?_
    first | refine z_tg0 (j := 0) lX1_182 eX1_runHour_114 rfl hT hA.we (by decide) rfl rfl rfl ?_ | refine z_tg (j := 0) lX1_182 eX1_runHour_114 rfl hT hA.we ⟨by decide, by decide⟩ rfl rfl rfl ?_
    rw [w5.1]
    refine z_il2 eX1_runHour_117 ?_
    refine z_V5vz eX1_runHour_118 vX1_188 rfl rfl (Nat.le_of_ble_eq_true rfl) (Nat.le_of_ble_eq_true rfl) ((hA.lo).L0 hT (by decide)) ((hadd C) ) (fun s118 hs118 => ?_)
    exact hq7 _ _ _ rfl (hlog _ hs118).1 (hlog _ hs118).2
  have w36 : ∀ (S C : zMem), zRn b σ C0 S C → CoR lay x C S b M1 → zW G KX1_runHour 6 Q 7 [zP (x + b), zU, zU] [] lay (tC x S C) nx (0, 0) := by
    intro S C hS hR
    have hN := hR.1
    have hst : 0 ≤ k → S (b + 8 + 5) k = M1 (74 + 5 * k + 4) := fun z => (hN.mo.2.1 k z hk1).2.2.2.2
    have hsb : 0 ≤ k → 0 ≤ M1 (74 + 5 * k + 4) ∧ M1 (74 + 5 * k + 4) ≤ 3 := fun z => hI.st ⟨z, by omega⟩
    refine z_al0 eX1_runHour_7 hne ?_
    first | refine z_ta0 lX1_47 eX1_runHour_8 rfl hT hA (by decide) rfl rfl ?_ | refine z_ta lX1_47 eX1_runHour_8 rfl hT hA ⟨by decide, by decide⟩ rfl rfl ?_
    first | refine z_ta0 lX1_176 eX1_runHour_11 rfl hT hA.mo (by decide) rfl rfl ?_ | refine z_ta lX1_176 eX1_runHour_11 rfl hT hA.mo ⟨by decide, by decide⟩ rfl rfl ?_
    refine z_al0 eX1_runHour_14 hne ?_
    first | refine z_ta0 lX1_40 eX1_runHour_15 rfl hT hA (by decide) rfl rfl ?_ | refine z_ta lX1_40 eX1_runHour_15 rfl hT hA ⟨by decide, by decide⟩ rfl rfl ?_
    first | refine z_tg0 (j := 1) lX1_164 eX1_runHour_18 rfl hT hA.we (by decide) rfl rfl rfl ?_ | refine z_tg (j := 1) lX1_164 eX1_runHour_18 rfl hT hA.we ⟨by decide, by decide⟩ rfl rfl rfl ?_
    rw [hN.we.1.2.1]
    refine z_tl eX1_runHour_21 hT hA.mo ⟨by decide, by decide⟩ rfl rfl ⟨by omega, by omega⟩ ?_
    rw [hN.mo.2.2 _ h6.1 (by omega), hk]
    refine z_is1 eX1_runHour_22 (Nat.ne_of_beq_eq_false rfl) ?_
    refine z_iconst eX1_runHour_23 ?_
    refine z_is2 eX1_runHour_24 (Nat.ne_of_beq_eq_false rfl) ?_
    refine z_al0 eX1_runHour_25 hne ?_
    first | refine z_ta0 lX1_47 eX1_runHour_26 rfl hT hA (by decide) rfl rfl ?_ | refine z_ta lX1_47 eX1_runHour_26 rfl hT hA ⟨by decide, by decide⟩ rfl rfl ?_
    refine z_il1 eX1_runHour_29 ?_
    refine z_V1 eX1_runHour_30 vX1_109 rfl rfl (Nat.le_of_ble_eq_true rfl) (Nat.le_of_ble_eq_true rfl) ((hA.mo).L0 hT (by decide)) (c_X6_has hT hA.mo hN.mo hI.m4 ⟨by omega, by omega⟩) ?_
    refine z_ifb_eq (tgt := 121) eX1_runHour_33 rfl (fun h33 => ?_) (fun h33 => ?_)
    · first | exact w121 _ _ _ _ (by rw [zif_f (fun z => z.1 (by omega))]) hS (by unfold qCame; rw [zif_f (fun z => z.1 (by omega))]; exact hR) | exact w121 _ _ _ _ (by rw [zif_f (fun z => h45 z.2)]) hS (by unfold qCame; rw [zif_f (fun z => h45 z.2)]; exact hR) | fail
    · refine z_al0 eX1_runHour_36 hne ?_
      first | refine z_ta0 lX1_47 eX1_runHour_37 rfl hT hA (by decide) rfl rfl ?_ | refine z_ta lX1_47 eX1_runHour_37 rfl hT hA ⟨by decide, by decide⟩ rfl rfl ?_
      first | refine z_ta0 lX1_179 eX1_runHour_40 rfl hT hA.mo (by decide) rfl rfl ?_ | refine z_ta lX1_179 eX1_runHour_40 rfl hT hA.mo ⟨by decide, by decide⟩ rfl rfl ?_
      refine z_il1 eX1_runHour_43 ?_
      refine z_tl eX1_runHour_44 hT hA.mo ⟨by decide, by decide⟩ rfl rfl ⟨by omega, by omega⟩ ?_
      rw [hst (by omega)]
      refine z_if_ne (tgt := 121) eX1_runHour_45 rfl (by have := hsb (by omega); exact ⟨by omega, by omega⟩) (fun h45 => ?_) (fun h45 => ?_)
      · first | exact w121 _ _ _ _ (by rw [zif_f (fun z => z.1 (by omega))]) hS (by unfold qCame; rw [zif_f (fun z => z.1 (by omega))]; exact hR) | exact w121 _ _ _ _ (by rw [zif_f (fun z => h45 z.2)]) hS (by unfold qCame; rw [zif_f (fun z => h45 z.2)]; exact hR) | fail
      · refine z_al0 eX1_runHour_48 hne ?_
        refine z_il1 eX1_runHour_49 ?_
        refine z_al0 eX1_runHour_50 hne ?_
        first | refine z_ta0 lX1_40 eX1_runHour_51 rfl hT hA (by decide) rfl rfl ?_ | refine z_ta lX1_40 eX1_runHour_51 rfl hT hA ⟨by decide, by decide⟩ rfl rfl ?_
        first | refine z_tg0 (j := 0) lX1_182 eX1_runHour_54 rfl hT hA.we (by decide) rfl rfl rfl ?_ | refine z_tg (j := 0) lX1_182 eX1_runHour_54 rfl hT hA.we ⟨by decide, by decide⟩ rfl rfl rfl ?_
        rw [hN.we.1.1]
        refine z_al0 eX1_runHour_57 hne ?_
        first | refine z_ta0 lX1_40 eX1_runHour_58 rfl hT hA (by decide) rfl rfl ?_ | refine z_ta lX1_40 eX1_runHour_58 rfl hT hA ⟨by decide, by decide⟩ rfl rfl ?_
        first | refine z_tg0 (j := 1) lX1_164 eX1_runHour_61 rfl hT hA.we (by decide) rfl rfl rfl ?_ | refine z_tg (j := 1) lX1_164 eX1_runHour_61 rfl hT hA.we ⟨by decide, by decide⟩ rfl rfl rfl ?_
        rw [hN.we.1.2.1]
        refine z_al0 eX1_runHour_64 hne ?_
        first | refine z_tg0 (j := 5) lX1_78 eX1_runHour_65 rfl hT hA (by decide) rfl rfl rfl ?_ | refine z_tg (j := 5) lX1_78 eX1_runHour_65 rfl hT hA ⟨by decide, by decide⟩ rfl rfl rfl ?_
        rw [hN.ou]
        refine z_al0 eX1_runHour_68 hne ?_
        first | refine z_ta0 lX1_47 eX1_runHour_69 rfl hT hA (by decide) rfl rfl ?_ | refine z_ta lX1_47 eX1_runHour_69 rfl hT hA ⟨by decide, by decide⟩ rfl rfl ?_
        first | refine z_ta0 lX1_155 eX1_runHour_72 rfl hT hA.mo (by decide) rfl rfl ?_ | refine z_ta lX1_155 eX1_runHour_72 rfl hT hA.mo ⟨by decide, by decide⟩ rfl rfl ?_
        refine z_il1 eX1_runHour_75 ?_
        refine z_tl eX1_runHour_76 hT hA.mo ⟨by decide, by decide⟩ rfl rfl ⟨by omega, by omega⟩ ?_
        rw [(hN.mo.2.1 k (by omega) hk1).2.2.2.1]
        refine z_V5y eX1_runHour_77 vX1_158 rfl rfl (Nat.le_of_ble_eq_true rfl) (Nat.le_of_ble_eq_true rfl) ((hA).L0 hT (by decide)) (c_X1_outcome hT hA hN hR.2 hM1 ⟨by omega, by omega⟩ ⟨by omega, hk1⟩ ⟨by omega, by omega⟩ ⟨ho.1, by omega⟩) (fun s77 C77 hs77 => ?_)
        rw [qGoO_q hM1.ol.1 (hM1.mb ⟨by omega, hk1⟩)]
        have hR7 := hR.fc hs77
        have hS7 := hS.trans (zFc.rn hs77)
        refine z_is2 eX1_runHour_80 (Nat.ne_of_beq_eq_false rfl) ?_
        exact w81 ⟨by omega, h45⟩ _ _ hS7 hR7
  have hsky : CoN (zset (zset σ (b + 4) 3 (1103515245 * M 12 + 12345)) (b + 4) 0 (qSkyN M)) b M1 := by
    have hI0 := hM.I
    have e : ∀ o, o ≠ b + 4 → zset (zset σ (b + 4) 3 (1103515245 * M 12 + 12345)) (b + 4) 0 (qSkyN M) o = σ o := fun o ho => by rw [zset_o ho, zset_o ho]
    refine hR.1.of hI0.m3.2 (e _ (by omega)) (e _ (by omega)) (e _ (by omega)) (e _ (by omega)) (fun j hj => f1 j (by omega)) (by rw [← h1]; exact hR.1.we.sky) ((hR.1.mo.m hI0.m4.2 (fun j hj => f1 j (by omega))).out (fun i i0 i1 => e _ (by omega))) ((hR.1.lo.m hI0.m11.2 (fun j hj => f1 j (by omega))).out (e _ (by omega)) (e _ (by omega)))
  refine z_al0 eX1_runHour_0 hne ?_
  first | refine z_ta0 lX1_40 eX1_runHour_1 rfl hT hA (by decide) rfl rfl ?_ | refine z_ta lX1_40 eX1_runHour_1 rfl hT hA ⟨by decide, by decide⟩ rfl rfl ?_
  refine z_V0v eX1_runHour_4 vX1_173 rfl rfl (Nat.le_of_ble_eq_true rfl) (Nat.le_of_ble_eq_true rfl) ((hA.we).L0 hT (by decide)) (c_X9_passSky hT hA.we hR.1.we hM.ol.1) ?_
  exact w36 _ _ ⟨fun i hi => by rw [zset_o (by omega), zset_o (by omega)], by rw [zset_o (by omega), zset_o (by omega)], zStk.refl _ _⟩ (hR.of hsky (by rw [zset_o (by omega), zset_o (by omega)]) (f1 1 (by omega)) (f1 2 (by omega)) (fun i i0 => f1 _ (by omega)))
