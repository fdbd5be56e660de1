/-! When a motion is carried. -/
def zAj (lay : zLay) (x : Int) (σ C0 : zMem) (M : Int → Int) (n : Int) (S C : zMem) : Prop := CoR lay x C S (0 + 2) M ∧ (∀ i, ¬ (6 ≤ i ∧ i < 20) → S i = σ i) ∧ zStk C0 (σ (0 + 2) 10) C ∧ ∀ t, 0 ≤ t → t < 5 → S (0 + 2 + 4 + 2) t = qCh M n t
theorem zAj.go {lay : zLay} {x n : Int} {σ C0 S C s : zMem} {M : Int → Int} (hI : zInv M) (hn : 0 ≤ n) (h : zAj lay x σ C0 M n S C) (hs : zOut (0 + 2 + 4) 4 S s ∧ WeR s (0 + 2 + 4) M ∧ ∀ t, 0 ≤ t → t < 5 → s (0 + 2 + 4 + 2) t = qGoC M (S (0 + 2 + 4 + 2)) t) : zAj lay x σ C0 M (n + 1) s C :=
  ⟨⟨h.1.1.weq hI hs.1 hs.2.1, by rw [hs.1 (0 + 2) (by omega)]; exact h.1.2⟩, fun i hi => by rw [hs.1 i (by omega)]; exact h.2.1 i hi, h.2.2.1, fun t t0 t1 => by rw [hs.2.2 t t0 t1, qCh_s M hn]; exact qGoC_c h.2.2.2 t⟩
theorem zAj.fc {lay : zLay} {x n : Int} {σ C0 S C q D : zMem} {M : Int → Int} (h : zAj lay x σ C0 M n S C) (hq : zFc (0 + 2) S C q D) : zAj lay x σ C0 M n q D := by
  have hz := hq.2
  rw [h.2.1 (0 + 2) (by omega)] at hz
  exact ⟨h.1.fc hq, fun i hi => by rw [hq.1 i (by omega)]; exact h.2.1 i hi, h.2.2.1.trans hz, fun t t0 t1 => by rw [hq.1 (0 + 2 + 4 + 2) (by omega)]; exact h.2.2.2 t t0 t1⟩
theorem c_X11_soonest {G : zG} {lay : zLay} {σ C0 : zMem} {nx x : Int} (hT : TopL lay x) {k w : Int} {M : Int → Int} (hR : CoR lay x C0 σ (0 + 2) M) (hM : zOC M) (hk : zin k) (hw : zin w) : zMM G 8 KX11_soonest [zP (x + 0), zI k, zI w] lay (tC x σ C0) nx (2, 12) (zGd (0 ≤ k ∧ k < M 4) zEb lay (tC x σ C0) nx (zGd (0 ≤ w ∧ w ≤ 10000) zEa lay (tC x σ C0) nx (zY' (some (zI (qFst (fun i => w ≤ qCar M k i) 24 1))) (fun q C => (∀ i, ¬ (6 ≤ i ∧ i < 20) → q i = σ i) ∧ CoR lay x C q (0 + 2) M ∧ zStk C0 (σ (0 + 2) 10) C) lay nx x))) := by
  refine z_met' (L := [zP (x + 0), zI k, zI w, zU]) gX11_soonest.1 rfl rfl (Nat.le_of_ble_eq_true rfl) rfl ?_
  have hA := TpAt
  have hx := hT.1
  have hne : x + 0 ≠ -1 := by omega
  have hD := isCo.now
  have h6 := hM.I.s 6 rfl (by omega)
  have hl : ∀ (V : Int) (Q : zQ), (∀ S C n, zAj lay x σ C0 M n S C → Q (.inl (some (zI V))) lay (tC x S C) nx) → 0 ≤ k ∧ k < M 4 → ∀ (m : Nat) (i : Int), i + m = 25 → 1 ≤ i → qFst (fun i => w ≤ qCar M k i) m i = V → ∀ S C, zAj lay x σ C0 M (i - 1) S C → zW G KX11_soonest 8 Q 25 [zP (x + 0), zI k, zI w, zI i] [] lay (tC x S C) nx (0, 0) := by
    intro V Q hq hk1 m
    induction m with
    | zero =>
      intro i hi i1 hV S C hS
      refine z_il3 eX11_soonest_25 ?_
      refine z_bipush eX11_soonest_26 (by decide) ?_
      refine z_icmp_gt (tgt := 72) eX11_soonest_28 rfl ⟨⟨by omega, by omega⟩, ⟨by omega, by omega⟩⟩ (fun h28 => ?_) (fun h28 => (by exfalso; omega))
      refine z_iconst eX11_soonest_72 ?_
      refine z_ireturn eX11_soonest_73 rfl ?_
      rw [show (-1 : Int) = V from hV]
      exact hq S C _ hS
    | succ m ih =>
      intro i hi i1 hV S C hS
      rw [qFst_s] at hV
      have hb := qCar_bd hM.ol.1 k (n := i) (by omega)
      refine z_il3 eX11_soonest_25 ?_
      refine z_bipush eX11_soonest_26 (by decide) ?_
      refine z_icmp_gt (tgt := 72) eX11_soonest_28 rfl ⟨⟨by omega, by omega⟩, ⟨by omega, by omega⟩⟩ (fun h28 => (by exfalso; omega)) (fun h28 => ?_)
      refine z_al0 eX11_soonest_31 hne ?_
      first | refine z_ta0 lX11_20 eX11_soonest_32 rfl hT hA (by decide) rfl rfl ?_ | refine z_ta lX11_20 eX11_soonest_32 rfl hT hA ⟨by decide, by decide⟩ rfl rfl ?_
      first | refine z_ta0 lX11_194 eX11_soonest_35 rfl hT hD (by decide) rfl rfl ?_ | refine z_ta lX11_194 eX11_soonest_35 rfl hT hD ⟨by decide, by decide⟩ rfl rfl ?_
      refine z_V0vz eX11_soonest_38 vX11_258 rfl rfl (Nat.le_of_ble_eq_true rfl) (Nat.le_of_ble_eq_true rfl) ((hD.we).L0 hT (by decide)) (c_X9_spreadHour hT hD.we hS.1.1.we hM.ol.1 (zCh.q hM.ol.1 (n := i - 1) (by omega) hS.2.2.2)) (fun s38 hs38 => ?_)
      have hS1 := hS.go hM.I (by omega) hs38
      rw [show i - 1 + 1 = i by omega] at hS1
      refine z_al0 eX11_soonest_41 hne ?_
      first | refine z_ta0 lX11_20 eX11_soonest_42 rfl hT hA (by decide) rfl rfl ?_ | refine z_ta lX11_20 eX11_soonest_42 rfl hT hA ⟨by decide, by decide⟩ rfl rfl ?_
      refine z_il1 eX11_soonest_45 ?_
      refine z_al0 eX11_soonest_46 hne ?_
      first | refine z_ta0 lX11_20 eX11_soonest_47 rfl hT hA (by decide) rfl rfl ?_ | refine z_ta lX11_20 eX11_soonest_47 rfl hT hA ⟨by decide, by decide⟩ rfl rfl ?_
      first | refine z_ta0 lX11_194 eX11_soonest_50 rfl hT hD (by decide) rfl rfl ?_ | refine z_ta lX11_194 eX11_soonest_50 rfl hT hD ⟨by decide, by decide⟩ rfl rfl ?_
      refine z_il3 eX11_soonest_53 ?_
      refine z_V1 eX11_soonest_54 vX11_264 rfl rfl (Nat.le_of_ble_eq_true rfl) (Nat.le_of_ble_eq_true rfl) ((hD.we).L0 hT (by decide)) (c_X9_hourThen hT hD.we hS1.1.1.we ⟨h6.1, by omega⟩ ⟨by omega, by omega⟩) ?_
      refine z_V2y eX11_soonest_57 vX11_267 rfl rfl (Nat.le_of_ble_eq_true rfl) (Nat.le_of_ble_eq_true rfl) ((hD).L0 hT (by decide)) (c_X1_carriedThen hT hD hS1.1 hM (zCh.q hM.ol.1 (by omega) hS1.2.2.2) hk1 ⟨by omega, by omega⟩) (fun s57 C57 hs57 => ?_)
      rw [qCarH_n hS1.2.2.2]
      have hS2 := hS1.fc hs57
      refine z_il2 eX11_soonest_60 ?_
      refine z_icmp_lt (tgt := 66) eX11_soonest_61 rfl ⟨⟨by omega, by omega⟩, ⟨by omega, by omega⟩⟩ (fun h61 => ?_) (fun h61 => ?_)
      · refine z_ii3 eX11_soonest_66 (Nat.ne_of_beq_eq_false rfl) ?_
        refine z_goto eX11_soonest_69 (tgt := 25) rfl ?_
        rw [zif_f (by omega)] at hV
        exact ih (i + 1) (by omega) (by omega) hV _ _ (by rw [show i + 1 - 1 = i by omega]; exact hS2)
      · refine z_il3 eX11_soonest_64 ?_
        refine z_ireturn eX11_soonest_65 rfl ?_
        rw [zif_t (by omega)] at hV
        rw [hV]
        exact hq _ _ _ hS2
  refine z_al0 eX11_soonest_0 hne ?_
  refine z_il1 eX11_soonest_1 ?_
  refine z_ndV1 (n := 1) eX11_soonest_2 vX11_168 rfl rfl (Nat.le_of_ble_eq_true rfl) (Nat.le_of_ble_eq_true rfl) (hA.L0 hT (by decide)) (c_X11_needMotion hT hR.1 hM (by assumption)) (fun hP2 => ?_) (fun hN2 => (by first | exact Or.inr ⟨(by first | assumption | exact ⟨by omega, by omega⟩ | omega), rfl, rfl, rfl, rfl⟩ | exact Or.inl ⟨(by first | assumption | exact ⟨by omega, by omega⟩ | omega), Or.inr ⟨(by first | assumption | exact ⟨by omega, by omega⟩ | omega), rfl, rfl, rfl, rfl⟩⟩))
  refine z_il2 eX11_soonest_5 ?_
  refine z_iconst eX11_soonest_6 ?_
  refine z_sipush eX11_soonest_7 (by decide) ?_
  refine z_ndS3 (n := 0) eX11_soonest_10 vX11_226 rfl rfl (Nat.le_of_ble_eq_true rfl) (Nat.le_of_ble_eq_true rfl) (c_X11_needNumber hT (by assumption) ⟨by omega, by omega⟩ ⟨by omega, by omega⟩) (fun hP10 => ?_) (fun hN10 => (by first | exact Or.inr ⟨(by first | assumption | exact ⟨by omega, by omega⟩ | omega), rfl, rfl, rfl, rfl⟩ | exact Or.inl ⟨(by first | assumption | exact ⟨by omega, by omega⟩ | omega), Or.inr ⟨(by first | assumption | exact ⟨by omega, by omega⟩ | omega), rfl, rfl, rfl, rfl⟩⟩))
  refine z_al0 eX11_soonest_13 hne ?_
  first | refine z_ta0 lX11_20 eX11_soonest_14 rfl hT hA (by decide) rfl rfl ?_ | refine z_ta lX11_20 eX11_soonest_14 rfl hT hA ⟨by decide, by decide⟩ rfl rfl ?_
  first | refine z_ta0 lX11_194 eX11_soonest_17 rfl hT hD (by decide) rfl rfl ?_ | refine z_ta lX11_194 eX11_soonest_17 rfl hT hD ⟨by decide, by decide⟩ rfl rfl ?_
  refine z_V0vz eX11_soonest_20 vX11_255 rfl rfl (Nat.le_of_ble_eq_true rfl) (Nat.le_of_ble_eq_true rfl) ((hD.we).L0 hT (by decide)) (c_X9_startChances hT hD.we hR.1.we hM.ol.1) (fun s20 hs20 => ?_)
  refine z_iconst eX11_soonest_23 ?_
  refine z_is3 eX11_soonest_24 (Nat.ne_of_beq_eq_false rfl) ?_
  refine hl _ _ (fun S C n hS => ?_) hP2 24 1 (by decide) (by decide) rfl s20 C0 ⟨⟨hR.1.weq hM.I hs20.1 hs20.2.1, by rw [hs20.1 (0 + 2) (by omega)]; exact hR.2⟩, fun i hi => hs20.1 i (by omega), zStk.refl _ _, hs20.2.2⟩
  exact Or.inl ⟨hP2, Or.inl ⟨hP10, zYe ⟨hS.2.1, hS.1, hS.2.2.1⟩ rfl⟩⟩
