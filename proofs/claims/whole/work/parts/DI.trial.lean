/-! Hours that are tried. -/
theorem qPassM_5 (M : Int → Int) : qPassM M 5 = qSkyN M := by
  have e5 : qSkyed M 5 = qSkyN M := by unfold qSkyed; rw [zput_eq]
  unfold qPassM
  rw [qHourOn_j ⟨by decide, by decide⟩]
  unfold qCame
  by_cases hc : qComes (qSkyed M) (qSkyed M (114 + qSkyed M 6))
  · rw [zif_t hc, qLog_j (by omega) (by omega), zput_ne (by omega), e5]
  · rw [zif_f hc, e5]
theorem WeR.seed {σ : zMem} {b v : Int} {M : Int → Int} (h : WeR σ b M) : WeR (zset σ b 3 v) b (zput M 12 v) :=
  ⟨⟨by rw [zset_f (by decide), zput_ne (by decide)]; exact h.1.1, by rw [zset_f (by decide), zput_ne (by decide)]; exact h.1.2.1, by rw [zset_f (by decide), zput_ne (by decide)]; exact h.1.2.2.1, by rw [zset_eq, zput_eq]⟩, fun t t0 t1 => by rw [zset_o (by omega), zput_ne (by omega)]; exact h.2 t t0 t1⟩
theorem CoN.seed {σ : zMem} {b v : Int} {M : Int → Int} (h : CoN σ b M) (hI : zInv M) : CoN (zset σ (b + 4) 3 v) b (zput M 12 v) :=
  h.wea hI (fun i hi => zset_o (by omega)) (fun j hj => zput_ne (by omega)) h.we.seed
theorem zOC.seed {M : Int → Int} {v : Int} (h : zOC M) : zOC (zput M 12 v) :=
  h.m (h.ol.put (k := 12) (Or.inl (by decide)) (by decide) (fun _ _ => Or.inl (Or.inl rfl))) (fun j hj => zput_ne (by omega))
theorem c_X11_tryHours {G : zG} {lay : zLay} {σ C0 : zMem} {nx x : Int} (hT : TopL lay x) {n v : Int} {M : Int → Int} (hR : CoR lay x C0 σ (0 + 2) M) (hM : zOC M) (hn : 0 ≤ n ∧ n ≤ 60) : zMM G 7 KX11_tryHours [zP (x + 0), zI n, zI v] lay (tC x σ C0) nx (0, 0) (zY' (some (zI (qPassN (zput M 12 v) n).2.1)) (fun q C => CoR lay x C q (0 + 20) (qPassN (zput M 12 v) n).1 ∧ zOC (qPassN (zput M 12 v) n).1 ∧ (∀ i, ¬ (20 ≤ i ∧ i < 38) → q i = σ i) ∧ zStk C0 (σ (0 + 2) 10) C) lay nx x) := by
  refine z_met' (L := [zP (x + 0), zI n, zI v, zU, zU]) gX11_tryHours.1 rfl rfl (Nat.le_of_ble_eq_true rfl) rfl ?_
  have hA := TpAt
  have hx := hT.1
  have hne : x + 0 ≠ -1 := by omega
  have hD := isCo.now
  have hTr : CoAt (0 + 20) := isCo.tried
  have hl : ∀ (s0 : zMem) (W : Int → Int) (Q : zQ), (∀ S C, zRn (0 + 20) s0 C0 S C → CoR lay x C S (0 + 20) (qPassN W n).1 → zOC (qPassN W n).1 → Q (.inl (some (zI (qPassN W n).2.1))) lay (tC x S C) nx) → ∀ t : Int, 0 ≤ t → t ≤ n → ∀ S C, zRn (0 + 20) s0 C0 S C → CoR lay x C S (0 + 20) (qPassN W t).1 → zOC (qPassN W t).1 → zW G KX11_tryHours 7 Q 27 [zP (x + 0), zI n, zI v, zI (qPassN W t).2.1, zI t] [] lay (tC x S C) nx (0, 0) := by
    intro s0 W Q hq
    refine z_up n ?_ ?_
    · intro S C h1 h2 h3
      refine z_il4 eX11_tryHours_27 ?_
      refine z_il1 eX11_tryHours_29 ?_
      refine z_icmp_ge (tgt := 64) eX11_tryHours_30 rfl ⟨⟨by omega, by omega⟩, ⟨by omega, by omega⟩⟩ (fun h30 => ?_) (fun h30 => (by exfalso; omega))
      refine z_il3 eX11_tryHours_64 ?_
      refine z_ireturn eX11_tryHours_65 rfl ?_
      exact hq S C h1 h2 h3
    · intro t t0 t1 ih S C h1 h2 h3
      have es : (qPassN W (t + 1)).1 = qPassM (qPassN W t).1 := by rw [qPassN_s W t0]; rfl
      have ev : (qPassN W (t + 1)).2.1 = (qPassN W t).2.1 + qPassD (qPassN W t).1 := by rw [qPassN_s W t0]; rfl
      have hsk := qSkyN_bd (qPassN W t).1
      rw [es, ev] at ih
      unfold qPassD at ih
      refine z_il4 eX11_tryHours_27 ?_
      refine z_il1 eX11_tryHours_29 ?_
      refine z_icmp_ge (tgt := 64) eX11_tryHours_30 rfl ⟨⟨by omega, by omega⟩, ⟨by omega, by omega⟩⟩ (fun h30 => (by exfalso; omega)) (fun h30 => ?_)
      refine z_al0 eX11_tryHours_33 hne ?_
      first | refine z_ta0 lX11_24 eX11_tryHours_34 rfl hT hA (by decide) rfl rfl ?_ | refine z_ta lX11_24 eX11_tryHours_34 rfl hT hA ⟨by decide, by decide⟩ rfl rfl ?_
      refine z_V0y eX11_tryHours_37 vX11_233 rfl rfl (Nat.le_of_ble_eq_true rfl) (Nat.le_of_ble_eq_true rfl) ((hTr).L0 hT (by decide)) (c_X1_runHour hT hTr h2 h3) (fun s37 C37 hs37 => ?_)
      refine z_pop eX11_tryHours_40 (Nat.ne_of_beq_eq_false rfl) ?_
      refine z_al0 eX11_tryHours_41 hne ?_
      first | refine z_ta0 lX11_24 eX11_tryHours_42 rfl hT hA (by decide) rfl rfl ?_ | refine z_ta lX11_24 eX11_tryHours_42 rfl hT hA ⟨by decide, by decide⟩ rfl rfl ?_
      first | refine z_ta0 lX11_194 eX11_tryHours_45 rfl hT hTr (by decide) rfl rfl ?_ | refine z_ta lX11_194 eX11_tryHours_45 rfl hT hTr ⟨by decide, by decide⟩ rfl rfl ?_
      first | refine z_tg0 (j := 0) lX11_399 eX11_tryHours_48 rfl hT hTr.we (by decide) rfl rfl rfl ?_ | refine z_tg (j := 0) lX11_399 eX11_tryHours_48 rfl hT hTr.we ⟨by decide, by decide⟩ rfl rfl rfl ?_
      rw [hs37.2.1.we.1.1, qPassM_5]
      refine z_iconst eX11_tryHours_51 ?_
      refine z_icmp_ne (tgt := 58) eX11_tryHours_52 rfl ⟨⟨by omega, by omega⟩, ⟨by omega, by omega⟩⟩ (fun h52 => ?_) (fun h52 => ?_)
      · refine z_ii4 eX11_tryHours_58 (Nat.ne_of_beq_eq_false rfl) ?_
        refine z_goto eX11_tryHours_61 (tgt := 27) rfl ?_
        first | (rw [if_pos (by omega)] at ih; exact ih _ _ (h1.trans hs37.1) hs37.2 (qPassM_OC h3)) | (rw [if_neg (by omega), Int.add_zero (qPassN W t).2.1] at ih; exact ih _ _ (h1.trans hs37.1) hs37.2 (qPassM_OC h3))
      · refine z_ii3 eX11_tryHours_55 (Nat.ne_of_beq_eq_false rfl) ?_
        refine z_ii4 eX11_tryHours_58 (Nat.ne_of_beq_eq_false rfl) ?_
        refine z_goto eX11_tryHours_61 (tgt := 27) rfl ?_
        first | (rw [if_pos (by omega)] at ih; exact ih _ _ (h1.trans hs37.1) hs37.2 (qPassM_OC h3)) | (rw [if_neg (by omega), Int.add_zero (qPassN W t).2.1] at ih; exact ih _ _ (h1.trans hs37.1) hs37.2 (qPassM_OC h3))
  refine z_al0 eX11_tryHours_0 hne ?_
  first | refine z_ta0 lX11_24 eX11_tryHours_1 rfl hT hA (by decide) rfl rfl ?_ | refine z_ta lX11_24 eX11_tryHours_1 rfl hT hA ⟨by decide, by decide⟩ rfl rfl ?_
  refine z_al0 eX11_tryHours_4 hne ?_
  first | refine z_ta0 lX11_20 eX11_tryHours_5 rfl hT hA (by decide) rfl rfl ?_ | refine z_ta lX11_20 eX11_tryHours_5 rfl hT hA ⟨by decide, by decide⟩ rfl rfl ?_
  refine z_V1vz eX11_tryHours_8 vX11_107 rfl rfl (Nat.le_of_ble_eq_true rfl) (Nat.le_of_ble_eq_true rfl) ((hTr).L0 hT (by decide)) (c_X1_takeAll hT hTr hD (by omega) hR.1 hM.I) (fun s8 hs8 => ?_)
  refine z_al0 eX11_tryHours_11 hne ?_
  first | refine z_ta0 lX11_24 eX11_tryHours_12 rfl hT hA (by decide) rfl rfl ?_ | refine z_ta lX11_24 eX11_tryHours_12 rfl hT hA ⟨by decide, by decide⟩ rfl rfl ?_
  first | refine z_ta0 lX11_194 eX11_tryHours_15 rfl hT hTr (by decide) rfl rfl ?_ | refine z_ta lX11_194 eX11_tryHours_15 rfl hT hTr ⟨by decide, by decide⟩ rfl rfl ?_
  refine z_il2 eX11_tryHours_18 ?_
  first | refine z_tp0 (j := 3) lX11_407 eX11_tryHours_19 rfl hT hTr.we (by decide) rfl rfl rfl ?_ | refine z_tp (j := 3) lX11_407 eX11_tryHours_19 rfl hT hTr.we ⟨by decide, by decide⟩ rfl rfl rfl ?_
  refine z_iconst eX11_tryHours_22 ?_
  refine z_is3 eX11_tryHours_23 (Nat.ne_of_beq_eq_false rfl) ?_
  refine z_iconst eX11_tryHours_24 ?_
  refine z_is4 eX11_tryHours_25 (Nat.ne_of_beq_eq_false rfl) ?_
  have e10 : zset s8 (0 + 20 + 4) 3 v (0 + 20) 10 = σ (0 + 2) 10 := by rw [zset_o (by decide)]; exact hs8.2.1
  refine hl _ (zput M 12 v) _ (fun S C h1 h2 h3 => ?_) 0 (by decide) hn.1 _ C0 (zRn.refl _ _ _) ⟨hs8.2.2.seed hM.I, by rw [e10]; exact (show CoL lay x C0 (σ (0 + 2) 10) (zput M 12 v) from hR.2.m (zput_ne (by decide)) (zput_ne (by decide)) (fun i i0 => zput_ne (by omega)))⟩ hM.seed
  have hz := h1.2.2
  rw [e10] at hz
  exact zYe ⟨h2, h3, fun i hi => by rw [h1.1 i (by omega), zset_o (by omega)]; exact hs8.1 i (by omega), hz⟩ rfl
theorem zput_id (M : Int → Int) (k : Int) : zput M k (M k) = M := by
  funext j
  unfold zput
  split
  · rename_i h; rw [h]
  · rfl
theorem c_X11_trial {G : zG} {lay : zLay} {σ C0 : zMem} {nx x : Int} (hT : TopL lay x) {n w : Int} {M : Int → Int} (hR : CoR lay x C0 σ (0 + 2) M) (hM : zOC M) (hn : zin n) (hw : w = 0 ∨ w = 1) : zMM G 8 KX11_trial [zP (x + 0), zI n, zI w] lay (tC x σ C0) nx (1, 6) (zGd (0 ≤ n ∧ n ≤ 60) zEa lay (tC x σ C0) nx (zY' (some (zI (if w = 1 then (qPassN M n).2.1 else qInSt (qPassN M n).1 1))) (fun q C => (∀ i, ¬ (20 ≤ i ∧ i < 38) → q i = σ i) ∧ zStk C0 (σ (0 + 2) 10) C) lay nx x)) := by
  refine z_met' (L := [zP (x + 0), zI n, zI w, zU]) gX11_trial.1 rfl rfl (Nat.le_of_ble_eq_true rfl) rfl ?_
  have hA := TpAt
  have hx := hT.1
  have hne : x + 0 ≠ -1 := by omega
  have hD := isCo.now
  have hTr : CoAt (0 + 20) := isCo.tried
  have hid := zput_id M 12
  refine z_il1 eX11_trial_0 ?_
  refine z_iconst eX11_trial_1 ?_
  refine z_bipush eX11_trial_2 (by decide) ?_
  refine z_ndS3 (n := 0) eX11_trial_4 vX11_226 rfl rfl (Nat.le_of_ble_eq_true rfl) (Nat.le_of_ble_eq_true rfl) (c_X11_needNumber hT (by assumption) ⟨by omega, by omega⟩ ⟨by omega, by omega⟩) (fun hP4 => ?_) (fun hN4 => (by first | exact Or.inr ⟨(by first | assumption | exact ⟨by omega, by omega⟩ | omega), rfl, rfl, rfl, rfl⟩))
  refine z_al0 eX11_trial_7 hne ?_
  refine z_il1 eX11_trial_8 ?_
  refine z_al0 eX11_trial_9 hne ?_
  first | refine z_ta0 lX11_20 eX11_trial_10 rfl hT hA (by decide) rfl rfl ?_ | refine z_ta lX11_20 eX11_trial_10 rfl hT hA ⟨by decide, by decide⟩ rfl rfl ?_
  first | refine z_ta0 lX11_194 eX11_trial_13 rfl hT hD (by decide) rfl rfl ?_ | refine z_ta lX11_194 eX11_trial_13 rfl hT hD ⟨by decide, by decide⟩ rfl rfl ?_
  first | refine z_tg0 (j := 3) lX11_407 eX11_trial_16 rfl hT hD.we (by decide) rfl rfl rfl ?_ | refine z_tg (j := 3) lX11_407 eX11_trial_16 rfl hT hD.we ⟨by decide, by decide⟩ rfl rfl rfl ?_
  rw [hR.1.we.1.2.2.2]
  refine z_V2y eX11_trial_19 vX11_410 rfl rfl (Nat.le_of_ble_eq_true rfl) (Nat.le_of_ble_eq_true rfl) ((hA).L0 hT (by decide)) (c_X11_tryHours hT hR hM hP4) (fun s19 C19 hs19 => ?_)
  rw [hid] at hs19
  rw [hid]
  refine z_is3 eX11_trial_22 (Nat.ne_of_beq_eq_false rfl) ?_
  refine z_il2 eX11_trial_23 ?_
  refine z_if_eq (tgt := 31) eX11_trial_24 rfl ⟨by omega, by omega⟩ (fun h24 => ?_) (fun h24 => ?_)
  · refine z_al0 eX11_trial_31 hne ?_
    first | refine z_ta0 lX11_24 eX11_trial_32 rfl hT hA (by decide) rfl rfl ?_ | refine z_ta lX11_24 eX11_trial_32 rfl hT hA ⟨by decide, by decide⟩ rfl rfl ?_
    first | refine z_ta0 lX11_154 eX11_trial_35 rfl hT hTr (by decide) rfl rfl ?_ | refine z_ta lX11_154 eX11_trial_35 rfl hT hTr ⟨by decide, by decide⟩ rfl rfl ?_
    refine z_iconst eX11_trial_38 ?_
    refine z_V1 eX11_trial_39 vX11_270 rfl rfl (Nat.le_of_ble_eq_true rfl) (Nat.le_of_ble_eq_true rfl) ((hTr.mo).L0 hT (by decide)) (c_X6_inState hT hTr.mo hs19.1.1.mo hs19.2.1.I (by decide)) ?_
    refine z_ireturn eX11_trial_42 rfl ?_
    first | (rw [if_pos (by omega)]; exact Or.inl ⟨hP4, zYe ⟨hs19.2.2.1, hs19.2.2.2⟩ rfl⟩) | (rw [if_neg (by omega)]; exact Or.inl ⟨hP4, zYe ⟨hs19.2.2.1, hs19.2.2.2⟩ rfl⟩)
  · refine z_il3 eX11_trial_27 ?_
    refine z_goto eX11_trial_28 (tgt := 42) rfl ?_
    refine z_ireturn eX11_trial_42 rfl ?_
    first | (rw [if_pos (by omega)]; exact Or.inl ⟨hP4, zYe ⟨hs19.2.2.1, hs19.2.2.2⟩ rfl⟩) | (rw [if_neg (by omega)]; exact Or.inl ⟨hP4, zYe ⟨hs19.2.2.1, hs19.2.2.2⟩ rfl⟩)
