/-! When a motion is likeliest carried. -/
theorem c_X11_when {G : zG} {lay : zLay} {σ C0 : zMem} {nx x : Int} (hT : TopL lay x) {k : Int} {M : Int → Int} (hR : CoR lay x C0 σ (0 + 2) M) (hM : zOC M) (hk : zin k) : zMM G 8 KX11_when [zP (x + 0), zI k] lay (tC x σ C0) nx (1, 6) (zGd (0 ≤ k ∧ k < M 4) zEb lay (tC x σ C0) nx (zY' (some (zI (qWhen M k))) (fun q C => (∀ i, ¬ (6 ≤ i ∧ i < 20) → q i = σ i) ∧ CoR lay x C q (0 + 2) M ∧ zStk C0 (σ (0 + 2) 10) C) lay nx x)) := by
  refine z_met' (L := [zP (x + 0), zI k, zU, zU, zU, zU]) gX11_when.1 rfl rfl (Nat.le_of_ble_eq_true rfl) rfl ?_
  have hA := TpAt
  have hx := hT.1
  have hne : x + 0 ≠ -1 := by omega
  have hD := isCo.now
  have h6 := hM.I.s 6 rfl (by omega)
  have hl : ∀ (Q : zQ), (∀ S C n, zAj lay x σ C0 M n S C → Q (.inl (some (zI (qWhen M k)))) lay (tC x S C) nx) → 0 ≤ k ∧ k < M 4 → ∀ t : Int, 0 ≤ t → t ≤ 24 → ∀ (S C : zMem) (b : Int) (y : zAV), y.1 ≠ 1 → (t = 0 → b = 1) → (0 < t → b = (qMax (fun i => qCar M k (i + 1)) (-1) (-1) t).1 + 1) → zAj lay x σ C0 M t S C → zW G KX11_when 8 Q 22 [zP (x + 0), zI k, zI (qMax (fun i => qCar M k (i + 1)) (-1) (-1) t).2, zI b, zI (t + 1), y] [] lay (tC x S C) nx (0, 0) := by
    intro Q hq hk1
    refine z_up 24 ?_ ?_
    · intro S C b y hy b0 b1 hS
      refine z_il4 eX11_when_22 ?_
      refine z_bipush eX11_when_24 (by decide) ?_
      refine z_icmp_gt (tgt := 79) eX11_when_26 rfl ⟨⟨by omega, by omega⟩, ⟨by omega, by omega⟩⟩ (fun h26 => ?_) (fun h26 => (by exfalso; omega))
      refine z_il3 eX11_when_79 ?_
      refine z_ireturn eX11_when_80 rfl ?_
      rw [b1 (by decide)]
      exact hq S C _ hS
    · intro t t0 t1 ih S C b y hy b0 b1 hS
      have hb := qCar_bd hM.ol.1 k (n := t + 1) (by omega)
      have hm := qMax_bd (f := fun i => qCar M k (i + 1)) (f0 := -1) (m0 := -1) (c := 50000) (by decide) t t0 (fun j j0 _ => (qCar_bd hM.ol.1 k (n := j + 1) (by omega)).2)
      have hz : t = 0 → (qMax (fun i => qCar M k (i + 1)) (-1) (-1) t).2 = -1 := fun z => by subst z; rfl
      rw [qMax_s _ _ _ t0] at ih
      refine z_il4 eX11_when_22 ?_
      refine z_bipush eX11_when_24 (by decide) ?_
      refine z_icmp_gt (tgt := 79) eX11_when_26 rfl ⟨⟨by omega, by omega⟩, ⟨by omega, by omega⟩⟩ (fun h26 => (by exfalso; omega)) (fun h26 => ?_)
      refine z_al0 eX11_when_29 hne ?_
      first | refine z_ta0 lX11_20 eX11_when_30 rfl hT hA (by decide) rfl rfl ?_ | refine z_ta lX11_20 eX11_when_30 rfl hT hA ⟨by decide, by decide⟩ rfl rfl ?_
      first | refine z_ta0 lX11_194 eX11_when_33 rfl hT hD (by decide) rfl rfl ?_ | refine z_ta lX11_194 eX11_when_33 rfl hT hD ⟨by decide, by decide⟩ rfl rfl ?_
      refine z_V0vz eX11_when_36 vX11_258 rfl rfl (Nat.le_of_ble_eq_true rfl) (Nat.le_of_ble_eq_true rfl) ((hD.we).L0 hT (by decide)) (c_X9_spreadHour hT hD.we hS.1.1.we hM.ol.1 (zCh.q hM.ol.1 t0 hS.2.2.2)) (fun s36 hs36 => ?_)
      have hS1 := hS.go hM.I t0 hs36
      refine z_al0 eX11_when_39 hne ?_
      first | refine z_ta0 lX11_20 eX11_when_40 rfl hT hA (by decide) rfl rfl ?_ | refine z_ta lX11_20 eX11_when_40 rfl hT hA ⟨by decide, by decide⟩ rfl rfl ?_
      refine z_il1 eX11_when_43 ?_
      refine z_al0 eX11_when_44 hne ?_
      first | refine z_ta0 lX11_20 eX11_when_45 rfl hT hA (by decide) rfl rfl ?_ | refine z_ta lX11_20 eX11_when_45 rfl hT hA ⟨by decide, by decide⟩ rfl rfl ?_
      first | refine z_ta0 lX11_194 eX11_when_48 rfl hT hD (by decide) rfl rfl ?_ | refine z_ta lX11_194 eX11_when_48 rfl hT hD ⟨by decide, by decide⟩ rfl rfl ?_
      refine z_il4 eX11_when_51 ?_
      refine z_V1 eX11_when_53 vX11_264 rfl rfl (Nat.le_of_ble_eq_true rfl) (Nat.le_of_ble_eq_true rfl) ((hD.we).L0 hT (by decide)) (c_X9_hourThen hT hD.we hS1.1.1.we ⟨h6.1, by omega⟩ ⟨by omega, by omega⟩) ?_
      refine z_V2y eX11_when_56 vX11_267 rfl rfl (Nat.le_of_ble_eq_true rfl) (Nat.le_of_ble_eq_true rfl) ((hD).L0 hT (by decide)) (c_X1_carriedThen hT hD hS1.1 hM (zCh.q hM.ol.1 (by omega) hS1.2.2.2) hk1 ⟨by omega, by omega⟩) (fun s56 C56 hs56 => ?_)
      rw [qCarH_n hS1.2.2.2]
      have hS2 := hS1.fc hs56
      refine z_is5 eX11_when_59 (Nat.ne_of_beq_eq_false rfl) ?_
      refine z_il5 eX11_when_61 ?_
      refine z_il2 eX11_when_63 ?_
      refine z_icmp_le (tgt := 73) eX11_when_64 rfl ⟨⟨by omega, by omega⟩, ⟨by omega, by omega⟩⟩ (fun h64 => ?_) (fun h64 => ?_)
      · refine z_ii4 eX11_when_73 (Nat.ne_of_beq_eq_false rfl) ?_
        refine z_goto eX11_when_76 (tgt := 22) rfl ?_
        first | (rw [if_pos (by omega)] at ih; exact ih _ _ _ _ (Nat.ne_of_beq_eq_false rfl) (fun z => by omega) (fun _ => rfl) hS2) | (rw [if_neg (by omega)] at ih; exact ih _ _ _ _ (Nat.ne_of_beq_eq_false rfl) (fun z => by omega) (fun _ => b1 (by omega)) hS2) | fail
      · refine z_il5 eX11_when_67 ?_
        refine z_is2 eX11_when_69 (Nat.ne_of_beq_eq_false rfl) ?_
        refine z_il4 eX11_when_70 ?_
        refine z_is3 eX11_when_72 (Nat.ne_of_beq_eq_false rfl) ?_
        refine z_ii4 eX11_when_73 (Nat.ne_of_beq_eq_false rfl) ?_
        refine z_goto eX11_when_76 (tgt := 22) rfl ?_
        first | (rw [if_pos (by omega)] at ih; exact ih _ _ _ _ (Nat.ne_of_beq_eq_false rfl) (fun z => by omega) (fun _ => rfl) hS2) | (rw [if_neg (by omega)] at ih; exact ih _ _ _ _ (Nat.ne_of_beq_eq_false rfl) (fun z => by omega) (fun _ => b1 (by omega)) hS2) | fail
  refine z_al0 eX11_when_0 hne ?_
  refine z_il1 eX11_when_1 ?_
  refine z_ndV1 (n := 0) eX11_when_2 vX11_168 rfl rfl (Nat.le_of_ble_eq_true rfl) (Nat.le_of_ble_eq_true rfl) (hA.L0 hT (by decide)) (c_X11_needMotion hT hR.1 hM (by assumption)) (fun hP2 => ?_) (fun hN2 => (by first | exact Or.inr ⟨(by first | assumption | exact ⟨by omega, by omega⟩ | omega), rfl, rfl, rfl, rfl⟩))
  refine z_al0 eX11_when_5 hne ?_
  first | refine z_ta0 lX11_20 eX11_when_6 rfl hT hA (by decide) rfl rfl ?_ | refine z_ta lX11_20 eX11_when_6 rfl hT hA ⟨by decide, by decide⟩ rfl rfl ?_
  first | refine z_ta0 lX11_194 eX11_when_9 rfl hT hD (by decide) rfl rfl ?_ | refine z_ta lX11_194 eX11_when_9 rfl hT hD ⟨by decide, by decide⟩ rfl rfl ?_
  refine z_V0vz eX11_when_12 vX11_255 rfl rfl (Nat.le_of_ble_eq_true rfl) (Nat.le_of_ble_eq_true rfl) ((hD.we).L0 hT (by decide)) (c_X9_startChances hT hD.we hR.1.we hM.ol.1) (fun s12 hs12 => ?_)
  refine z_iconst eX11_when_15 ?_
  refine z_is2 eX11_when_16 (Nat.ne_of_beq_eq_false rfl) ?_
  refine z_iconst eX11_when_17 ?_
  refine z_is3 eX11_when_18 (Nat.ne_of_beq_eq_false rfl) ?_
  refine z_iconst eX11_when_19 ?_
  refine z_is4 eX11_when_20 (Nat.ne_of_beq_eq_false rfl) ?_
  refine hl _ (fun S C n hS => ?_) hP2 0 (by decide) (by decide) s12 C0 1 zU (Nat.ne_of_beq_eq_false rfl) (fun _ => rfl) (fun z => absurd z (by decide)) ⟨⟨hR.1.weq hM.I hs12.1 hs12.2.1, by rw [hs12.1 (0 + 2) (by omega)]; exact hR.2⟩, fun i hi => hs12.1 i (by omega), zStk.refl _ _, hs12.2.2⟩
  exact Or.inl ⟨hP2, zYe ⟨hS.2.1, hS.1, hS.2.2.1⟩ rfl⟩
