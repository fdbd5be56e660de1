/-! Dry weeks. -/
theorem c_X11_drought {G : zG} {lay : zLay} {σ C0 : zMem} {nx x : Int} (hT : TopL lay x) {n : Int} {M : Int → Int} (hN : CoN σ (0 + 2) M) (hM : zOC M) (hn : zin n) : zMM G 8 KX11_drought [zP (x + 0), zI n] lay (tC x σ C0) nx (1, 6) (zGd (0 ≤ n ∧ n ≤ 12) zEa lay (tC x σ C0) nx (zZ' (some (zI (qDrought M n))) (fun s => zOut (0 + 2 + 4) 4 σ s ∧ WeR s (0 + 2 + 4) M) lay C0 nx x)) := by
  refine z_met' (L := [zP (x + 0), zI n, zU, zU, zU]) gX11_drought.1 rfl rfl (Nat.le_of_ble_eq_true rfl) rfl ?_
  have hA := TpAt
  have hx := hT.1
  have hne : x + 0 ≠ -1 := by omega
  have hD := isCo.now
  have hd := qDry_bd hM.ol.1 (n := 12) (by decide)
  have hl : ∀ (Q : zQ) (S : zMem), Q (.inl (some (zI (qDrought M n)))) lay (tC x S C0) nx → 0 ≤ n ∧ n ≤ 12 → ∀ t : Int, 0 ≤ t → t ≤ n → zW G KX11_drought 8 Q 27 [zP (x + 0), zI n, zI (qDry M 12), zI (qDrought M t), zI t] [] lay (tC x S C0) nx (0, 0) := by
    intro Q S hq hn1
    refine z_up n ?_ ?_
    · skip
      refine z_il4 eX11_drought_27 ?_
      refine z_il1 eX11_drought_29 ?_
      refine z_icmp_ge (tgt := 47) eX11_drought_30 rfl ⟨⟨by omega, by omega⟩, ⟨by omega, by omega⟩⟩ (fun h30 => ?_) (fun h30 => (by exfalso; omega))
      refine z_il3 eX11_drought_47 ?_
      refine z_ireturn eX11_drought_48 rfl ?_
      exact hq
    · intro t t0 t1 ih
      have e : qDrought M (t + 1) = qDrought M t * qDry M 12 / 10000 := by unfold qDrought; rw [zfold_s _ _ t0]
      have hb := qDrought_bd hM.ol.1 t0
      have hm := zmul_bd hb hd
      rw [e] at ih
      refine z_il4 eX11_drought_27 ?_
      refine z_il1 eX11_drought_29 ?_
      refine z_icmp_ge (tgt := 47) eX11_drought_30 rfl ⟨⟨by omega, by omega⟩, ⟨by omega, by omega⟩⟩ (fun h30 => (by exfalso; omega)) (fun h30 => ?_)
      refine z_il3 eX11_drought_33 ?_
      refine z_il2 eX11_drought_34 ?_
      refine z_imul eX11_drought_35 ?_
      refine z_sipush eX11_drought_36 (by decide) ?_
      refine z_idiv eX11_drought_39 ⟨by omega, by omega, by omega, by omega⟩ ?_
      refine z_is3 eX11_drought_40 (Nat.ne_of_beq_eq_false rfl) ?_
      refine z_ii4 eX11_drought_41 (Nat.ne_of_beq_eq_false rfl) ?_
      refine z_goto eX11_drought_44 (tgt := 27) rfl ?_
      exact ih
  refine z_il1 eX11_drought_0 ?_
  refine z_iconst eX11_drought_1 ?_
  refine z_bipush eX11_drought_2 (by decide) ?_
  refine z_ndS3 (n := 0) eX11_drought_4 vX11_226 rfl rfl (Nat.le_of_ble_eq_true rfl) (Nat.le_of_ble_eq_true rfl) (c_X11_needNumber hT hn ⟨by omega, by omega⟩ ⟨by omega, by omega⟩) (fun hP4 => ?_) (fun hN4 => (by first | exact Or.inr ⟨(by first | assumption | exact ⟨by omega, by omega⟩ | omega), rfl, rfl, rfl, rfl⟩))
  refine z_al0 eX11_drought_7 hne ?_
  first | refine z_ta0 lX11_20 eX11_drought_8 rfl hT hA (by decide) rfl rfl ?_ | refine z_ta lX11_20 eX11_drought_8 rfl hT hA ⟨by decide, by decide⟩ rfl rfl ?_
  first | refine z_ta0 lX11_194 eX11_drought_11 rfl hT hD (by decide) rfl rfl ?_ | refine z_ta lX11_194 eX11_drought_11 rfl hT hD ⟨by decide, by decide⟩ rfl rfl ?_
  refine z_bipush eX11_drought_14 (by decide) ?_
  refine z_V1z eX11_drought_16 vX11_393 rfl rfl (Nat.le_of_ble_eq_true rfl) (Nat.le_of_ble_eq_true rfl) ((hD.we).L0 hT (by decide)) (c_X9_dryBehind hT hD.we hN.we hM.ol.1 ⟨by decide, by decide⟩) (fun s16 hs16 => ?_)
  refine z_is2 eX11_drought_19 (Nat.ne_of_beq_eq_false rfl) ?_
  refine z_sipush eX11_drought_20 (by decide) ?_
  refine z_is3 eX11_drought_23 (Nat.ne_of_beq_eq_false rfl) ?_
  refine z_iconst eX11_drought_24 ?_
  refine z_is4 eX11_drought_25 (Nat.ne_of_beq_eq_false rfl) ?_
  exact hl _ _ (Or.inl ⟨hP4, zZe hs16 rfl⟩) hP4 0 (by decide) hP4.1
theorem c_X11_enough {G : zG} {lay : zLay} {σ C0 : zMem} {nx x : Int} (hT : TopL lay x) {M : Int → Int} (hN : CoN σ (0 + 2) M) (hM : zOC M) : zMM G 5 KX11_enough [zP (x + 0)] lay (tC x σ C0) nx (0, 0) (zZ' (some (zI (qFst (fun n => qDry M n < 5000) 13 0))) (fun s => zOut (0 + 2 + 4) 4 σ s ∧ WeR s (0 + 2 + 4) M) lay C0 nx x) := by
  refine z_met' (L := [zP (x + 0), zU]) gX11_enough.1 rfl rfl (Nat.le_of_ble_eq_true rfl) rfl ?_
  have hA := TpAt
  have hx := hT.1
  have hne : x + 0 ≠ -1 := by omega
  have hD := isCo.now
  have hl : ∀ (V : Int) (Q : zQ), (∀ S, zOut (0 + 2 + 4) 4 σ S ∧ WeR S (0 + 2 + 4) M → Q (.inl (some (zI V))) lay (tC x S C0) nx) → ∀ (m : Nat) (i : Int), i + m = 13 → 0 ≤ i → qFst (fun n => qDry M n < 5000) m i = V → ∀ S, zOut (0 + 2 + 4) 4 σ S ∧ WeR S (0 + 2 + 4) M → zW G KX11_enough 5 Q 2 [zP (x + 0), zI i] [] lay (tC x S C0) nx (0, 0) := by
    intro V Q hq m
    induction m with
    | zero =>
      intro i hi i0 hV S hS
      refine z_il1 eX11_enough_2 ?_
      refine z_bipush eX11_enough_3 (by decide) ?_
      refine z_icmp_gt (tgt := 33) eX11_enough_5 rfl ⟨⟨by omega, by omega⟩, ⟨by omega, by omega⟩⟩ (fun h5 => ?_) (fun h5 => (by exfalso; omega))
      refine z_iconst eX11_enough_33 ?_
      refine z_ireturn eX11_enough_34 rfl ?_
      rw [show (-1 : Int) = V from hV]
      exact hq S hS
    | succ m ih =>
      intro i hi i0 hV S hS
      rw [qFst_s] at hV
      have hb := qDry_bd hM.ol.1 (n := i) (by omega)
      refine z_il1 eX11_enough_2 ?_
      refine z_bipush eX11_enough_3 (by decide) ?_
      refine z_icmp_gt (tgt := 33) eX11_enough_5 rfl ⟨⟨by omega, by omega⟩, ⟨by omega, by omega⟩⟩ (fun h5 => (by exfalso; omega)) (fun h5 => ?_)
      refine z_al0 eX11_enough_8 hne ?_
      first | refine z_ta0 lX11_20 eX11_enough_9 rfl hT hA (by decide) rfl rfl ?_ | refine z_ta lX11_20 eX11_enough_9 rfl hT hA ⟨by decide, by decide⟩ rfl rfl ?_
      first | refine z_ta0 lX11_194 eX11_enough_12 rfl hT hD (by decide) rfl rfl ?_ | refine z_ta lX11_194 eX11_enough_12 rfl hT hD ⟨by decide, by decide⟩ rfl rfl ?_
      refine z_il1 eX11_enough_15 ?_
      refine z_V1z eX11_enough_16 vX11_393 rfl rfl (Nat.le_of_ble_eq_true rfl) (Nat.le_of_ble_eq_true rfl) ((hD.we).L0 hT (by decide)) (c_X9_dryBehind hT hD.we hS.2 hM.ol.1 ⟨by omega, by omega⟩) (fun s16 hs16 => ?_)
      have hS1 : zOut (0 + 2 + 4) 4 σ s16 ∧ WeR s16 (0 + 2 + 4) M := ⟨hS.1.trans hs16.1, hs16.2⟩
      refine z_sipush eX11_enough_19 (by decide) ?_
      refine z_icmp_ge (tgt := 27) eX11_enough_22 rfl ⟨⟨by omega, by omega⟩, ⟨by omega, by omega⟩⟩ (fun h22 => ?_) (fun h22 => ?_)
      · refine z_ii1 eX11_enough_27 (Nat.ne_of_beq_eq_false rfl) ?_
        refine z_goto eX11_enough_30 (tgt := 2) rfl ?_
        rw [zif_f (by omega)] at hV
        exact ih (i + 1) (by omega) (by omega) hV _ hS1
      · refine z_il1 eX11_enough_25 ?_
        refine z_ireturn eX11_enough_26 rfl ?_
        rw [zif_t (by omega)] at hV
        rw [hV]
        exact hq _ hS1
  refine z_iconst eX11_enough_0 ?_
  refine z_is1 eX11_enough_1 (Nat.ne_of_beq_eq_false rfl) ?_
  exact hl _ _ (fun S hS => zZe hS rfl) 13 0 (by decide) (by decide) rfl σ ⟨zOut.refl _ _ _, hN.we⟩
