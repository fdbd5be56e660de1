/-! The hours that come. -/
theorem qCarH_n {M c : Int → Int} {k n : Int} (hc : ∀ t, 0 ≤ t → t < 5 → c t = qCh M n t) : qCarH M c k ((M 6 + n - 1) % 12) 5 = qCar M k n := by
  unfold qCarH qCar
  exact zsum_congr (fun t t0 t1 => by rw [hc t t0 t1])
theorem zCh.q {M c : Int → Int} (hM : zOK M) {n : Int} (hn : 0 ≤ n) (hc : ∀ t, 0 ≤ t → t < 5 → c t = qCh M n t) : zCh c := by
  have h := qCh_ok hM hn
  refine ⟨fun s s0 s1 => by rw [hc s s0 s1]; exact h.1 s s0 s1, ?_⟩
  rw [zsum_congr hc]
  exact h.2
/-- the chances of n hours on stand in the council at b -/
def zAh (b : Int) (σ : zMem) (M : Int → Int) (n : Int) (S : zMem) : Prop := zOut (b + 4) 4 σ S ∧ WeR S (b + 4) M ∧ ∀ t, 0 ≤ t → t < 5 → S (b + 4 + 2) t = qCh M n t
theorem zAh.go {b n : Int} {σ S s : zMem} {M : Int → Int} (hn : 0 ≤ n) (h : zAh b σ M n S) (hs : zOut (b + 4) 4 S s ∧ WeR s (b + 4) M ∧ ∀ t, 0 ≤ t → t < 5 → s (b + 4 + 2) t = qGoC M (S (b + 4 + 2)) t) : zAh b σ M (n + 1) s :=
  ⟨h.1.trans hs.1, hs.2.1, fun t t0 t1 => by rw [hs.2.2 t t0 t1, qCh_s M hn]; exact qGoC_c h.2.2 t⟩
theorem zAh.R {lay : zLay} {x b n : Int} {C0 σ S : zMem} {M : Int → Int} (h : zAh b σ M n S) (hR : CoR lay x C0 σ b M) (hI : zInv M) : CoR lay x C0 S b M :=
  ⟨hR.1.weq hI h.1 h.2.1, by rw [h.1 b (by omega)]; exact hR.2⟩
theorem c_X11_chance {G : zG} {lay : zLay} {σ C0 : zMem} {nx x : Int} (hT : TopL lay x) {s n : Int} {M : Int → Int} (hR : CoR lay x C0 σ (0 + 2) M) (hM : zOC M) (hs : zin s) (hn : zin n) : zMM G 8 KX11_chance [zP (x + 0), zI s, zI n] lay (tC x σ C0) nx (2, 12) (zGd (0 ≤ s ∧ s < 5) zEb lay (tC x σ C0) nx (zGd (0 ≤ n ∧ n ≤ 24) zEa lay (tC x σ C0) nx (zZ' (some (zI (qCh M n s))) (fun q => zOut (0 + 2 + 4) 4 σ q ∧ WeR q (0 + 2 + 4) M) lay C0 nx x))) := by
  refine z_met' (L := [zP (x + 0), zI s, zI n, zU]) gX11_chance.1 rfl rfl (Nat.le_of_ble_eq_true rfl) rfl ?_
  have hA := TpAt
  have hx := hT.1
  have hne : x + 0 ≠ -1 := by omega
  have hD := isCo.now
  have hl : ∀ Q : zQ, (∀ S, zAh (0 + 2) σ M n S → Q (.inl (some (zI (qCh M n s)))) lay (tC x S C0) nx) → 0 ≤ s ∧ s < 5 → 0 ≤ n ∧ n ≤ 24 → ∀ t : Int, 0 ≤ t → t ≤ n → ∀ S, zAh (0 + 2) σ M t S → zW G KX11_chance 8 Q 23 [zP (x + 0), zI s, zI n, zI t] [] lay (tC x S C0) nx (0, 0) := by
    intro Q hq hs1 hn1
    refine z_up n ?_ ?_
    · intro S hS
      refine z_il3 eX11_chance_23 ?_
      refine z_il2 eX11_chance_24 ?_
      refine z_icmp_ge (tgt := 44) eX11_chance_25 rfl ⟨⟨by omega, by omega⟩, ⟨by omega, by omega⟩⟩ (fun h25 => ?_) (fun h25 => (by exfalso; omega))
      refine z_al0 eX11_chance_44 hne ?_
      first | refine z_ta0 lX11_20 eX11_chance_45 rfl hT hA (by decide) rfl rfl ?_ | refine z_ta lX11_20 eX11_chance_45 rfl hT hA ⟨by decide, by decide⟩ rfl rfl ?_
      first | refine z_ta0 lX11_194 eX11_chance_48 rfl hT hD (by decide) rfl rfl ?_ | refine z_ta lX11_194 eX11_chance_48 rfl hT hD ⟨by decide, by decide⟩ rfl rfl ?_
      first | refine z_ta0 lX11_261 eX11_chance_51 rfl hT hD.we (by decide) rfl rfl ?_ | refine z_ta lX11_261 eX11_chance_51 rfl hT hD.we ⟨by decide, by decide⟩ rfl rfl ?_
      refine z_il1 eX11_chance_54 ?_
      refine z_tl eX11_chance_55 hT hD.we ⟨by decide, by decide⟩ rfl rfl ⟨by omega, by omega⟩ ?_
      rw [hS.2.2 s hs1.1 hs1.2]
      refine z_ireturn eX11_chance_56 rfl ?_
      exact hq S hS
    · intro t t0 t1 ih S hS
      refine z_il3 eX11_chance_23 ?_
      refine z_il2 eX11_chance_24 ?_
      refine z_icmp_ge (tgt := 44) eX11_chance_25 rfl ⟨⟨by omega, by omega⟩, ⟨by omega, by omega⟩⟩ (fun h25 => (by exfalso; omega)) (fun h25 => ?_)
      refine z_al0 eX11_chance_28 hne ?_
      first | refine z_ta0 lX11_20 eX11_chance_29 rfl hT hA (by decide) rfl rfl ?_ | refine z_ta lX11_20 eX11_chance_29 rfl hT hA ⟨by decide, by decide⟩ rfl rfl ?_
      first | refine z_ta0 lX11_194 eX11_chance_32 rfl hT hD (by decide) rfl rfl ?_ | refine z_ta lX11_194 eX11_chance_32 rfl hT hD ⟨by decide, by decide⟩ rfl rfl ?_
      refine z_V0vz eX11_chance_35 vX11_258 rfl rfl (Nat.le_of_ble_eq_true rfl) (Nat.le_of_ble_eq_true rfl) ((hD.we).L0 hT (by decide)) (c_X9_spreadHour hT hD.we hS.2.1 hM.ol.1 (zCh.q hM.ol.1 t0 hS.2.2)) (fun s35 hs35 => ?_)
      refine z_ii3 eX11_chance_38 (Nat.ne_of_beq_eq_false rfl) ?_
      refine z_goto eX11_chance_41 (tgt := 23) rfl ?_
      exact ih _ (hS.go t0 hs35)
  refine z_il1 eX11_chance_0 ?_
  refine z_ndS1 (n := 1) eX11_chance_1 vX11_191 rfl rfl (Nat.le_of_ble_eq_true rfl) (Nat.le_of_ble_eq_true rfl) (c_X11_needSky hT (by assumption)) (fun hP1 => ?_) (fun hN1 => (by first | exact Or.inr ⟨(by first | assumption | exact ⟨by omega, by omega⟩ | omega), rfl, rfl, rfl, rfl⟩ | exact Or.inl ⟨(by first | assumption | exact ⟨by omega, by omega⟩ | omega), Or.inr ⟨(by first | assumption | exact ⟨by omega, by omega⟩ | omega), rfl, rfl, rfl, rfl⟩⟩))
  refine z_il2 eX11_chance_4 ?_
  refine z_iconst eX11_chance_5 ?_
  refine z_bipush eX11_chance_6 (by decide) ?_
  refine z_ndS3 (n := 0) eX11_chance_8 vX11_226 rfl rfl (Nat.le_of_ble_eq_true rfl) (Nat.le_of_ble_eq_true rfl) (c_X11_needNumber hT (by assumption) ⟨by omega, by omega⟩ ⟨by omega, by omega⟩) (fun hP8 => ?_) (fun hN8 => (by first | exact Or.inr ⟨(by first | assumption | exact ⟨by omega, by omega⟩ | omega), rfl, rfl, rfl, rfl⟩ | exact Or.inl ⟨(by first | assumption | exact ⟨by omega, by omega⟩ | omega), Or.inr ⟨(by first | assumption | exact ⟨by omega, by omega⟩ | omega), rfl, rfl, rfl, rfl⟩⟩))
  refine z_al0 eX11_chance_11 hne ?_
  first | refine z_ta0 lX11_20 eX11_chance_12 rfl hT hA (by decide) rfl rfl ?_ | refine z_ta lX11_20 eX11_chance_12 rfl hT hA ⟨by decide, by decide⟩ rfl rfl ?_
  first | refine z_ta0 lX11_194 eX11_chance_15 rfl hT hD (by decide) rfl rfl ?_ | refine z_ta lX11_194 eX11_chance_15 rfl hT hD ⟨by decide, by decide⟩ rfl rfl ?_
  refine z_V0vz eX11_chance_18 vX11_255 rfl rfl (Nat.le_of_ble_eq_true rfl) (Nat.le_of_ble_eq_true rfl) ((hD.we).L0 hT (by decide)) (c_X9_startChances hT hD.we hR.1.we hM.ol.1) (fun s18 hs18 => ?_)
  refine z_iconst eX11_chance_21 ?_
  refine z_is3 eX11_chance_22 (Nat.ne_of_beq_eq_false rfl) ?_
  exact hl _ (fun S hS => Or.inl ⟨hP1, Or.inl ⟨hP8, zZe ⟨hS.1, hS.2.1⟩ rfl⟩⟩) hP1 hP8 0 (by decide) hP8.1 s18 hs18
theorem c_X11_carries {G : zG} {lay : zLay} {σ C0 : zMem} {nx x : Int} (hT : TopL lay x) {k n : Int} {M : Int → Int} (hR : CoR lay x C0 σ (0 + 2) M) (hM : zOC M) (hk : zin k) (hn : zin n) : zMM G 8 KX11_carries [zP (x + 0), zI k, zI n] lay (tC x σ C0) nx (2, 12) (zGd (0 ≤ k ∧ k < M 4) zEb lay (tC x σ C0) nx (zGd (1 ≤ n ∧ n ≤ 24) zEa lay (tC x σ C0) nx (zY' (some (zI (qCar M k n))) (fun q C => (∀ i, ¬ (0 + 2 + 4 ≤ i ∧ i < 0 + 2 + 18) → q i = σ i) ∧ CoR lay x C q (0 + 2) M ∧ zStk C0 (σ (0 + 2) 10) C) lay nx x))) := by
  refine z_met' (L := [zP (x + 0), zI k, zI n, zU]) gX11_carries.1 rfl rfl (Nat.le_of_ble_eq_true rfl) rfl ?_
  have hA := TpAt
  have hx := hT.1
  have hne : x + 0 ≠ -1 := by omega
  have hD := isCo.now
  have h6 := hM.I.s 6 rfl (by omega)
  have hl : ∀ Q : zQ, (∀ S q C, zAh (0 + 2) σ M n S → zFc (0 + 2) S C0 q C → Q (.inl (some (zI (qCar M k n)))) lay (tC x q C) nx) → 0 ≤ k ∧ k < M 4 → 1 ≤ n ∧ n ≤ 24 → ∀ t : Int, 0 ≤ t → t ≤ n → ∀ S, zAh (0 + 2) σ M t S → zW G KX11_carries 8 Q 24 [zP (x + 0), zI k, zI n, zI t] [] lay (tC x S C0) nx (0, 0) := by
    intro Q hq hk1 hn1
    refine z_up n ?_ ?_
    · intro S hS
      refine z_il3 eX11_carries_24 ?_
      refine z_il2 eX11_carries_25 ?_
      refine z_icmp_ge (tgt := 45) eX11_carries_26 rfl ⟨⟨by omega, by omega⟩, ⟨by omega, by omega⟩⟩ (fun h26 => ?_) (fun h26 => (by exfalso; omega))
      refine z_al0 eX11_carries_45 hne ?_
      first | refine z_ta0 lX11_20 eX11_carries_46 rfl hT hA (by decide) rfl rfl ?_ | refine z_ta lX11_20 eX11_carries_46 rfl hT hA ⟨by decide, by decide⟩ rfl rfl ?_
      refine z_il1 eX11_carries_49 ?_
      refine z_al0 eX11_carries_50 hne ?_
      first | refine z_ta0 lX11_20 eX11_carries_51 rfl hT hA (by decide) rfl rfl ?_ | refine z_ta lX11_20 eX11_carries_51 rfl hT hA ⟨by decide, by decide⟩ rfl rfl ?_
      first | refine z_ta0 lX11_194 eX11_carries_54 rfl hT hD (by decide) rfl rfl ?_ | refine z_ta lX11_194 eX11_carries_54 rfl hT hD ⟨by decide, by decide⟩ rfl rfl ?_
      refine z_il2 eX11_carries_57 ?_
      refine z_V1 eX11_carries_58 vX11_264 rfl rfl (Nat.le_of_ble_eq_true rfl) (Nat.le_of_ble_eq_true rfl) ((hD.we).L0 hT (by decide)) (c_X9_hourThen hT hD.we hS.2.1 ⟨h6.1, by omega⟩ hn1) ?_
      refine z_V2y eX11_carries_61 vX11_267 rfl rfl (Nat.le_of_ble_eq_true rfl) (Nat.le_of_ble_eq_true rfl) ((hD).L0 hT (by decide)) (c_X1_carriedThen hT hD (hS.R hR hM.I) hM (zCh.q hM.ol.1 (by omega) hS.2.2) hk1 ⟨by omega, by omega⟩) (fun s61 C61 hs61 => ?_)
      refine z_ireturn eX11_carries_64 rfl ?_
      rw [qCarH_n hS.2.2]
      exact hq S _ _ hS hs61
    · intro t t0 t1 ih S hS
      refine z_il3 eX11_carries_24 ?_
      refine z_il2 eX11_carries_25 ?_
      refine z_icmp_ge (tgt := 45) eX11_carries_26 rfl ⟨⟨by omega, by omega⟩, ⟨by omega, by omega⟩⟩ (fun h26 => (by exfalso; omega)) (fun h26 => ?_)
      refine z_al0 eX11_carries_29 hne ?_
      first | refine z_ta0 lX11_20 eX11_carries_30 rfl hT hA (by decide) rfl rfl ?_ | refine z_ta lX11_20 eX11_carries_30 rfl hT hA ⟨by decide, by decide⟩ rfl rfl ?_
      first | refine z_ta0 lX11_194 eX11_carries_33 rfl hT hD (by decide) rfl rfl ?_ | refine z_ta lX11_194 eX11_carries_33 rfl hT hD ⟨by decide, by decide⟩ rfl rfl ?_
      refine z_V0vz eX11_carries_36 vX11_258 rfl rfl (Nat.le_of_ble_eq_true rfl) (Nat.le_of_ble_eq_true rfl) ((hD.we).L0 hT (by decide)) (c_X9_spreadHour hT hD.we hS.2.1 hM.ol.1 (zCh.q hM.ol.1 t0 hS.2.2)) (fun s36 hs36 => ?_)
      refine z_ii3 eX11_carries_39 (Nat.ne_of_beq_eq_false rfl) ?_
      refine z_goto eX11_carries_42 (tgt := 24) rfl ?_
      exact ih _ (hS.go t0 hs36)
  refine z_al0 eX11_carries_0 hne ?_
  refine z_il1 eX11_carries_1 ?_
  refine z_ndV1 (n := 1) eX11_carries_2 vX11_168 rfl rfl (Nat.le_of_ble_eq_true rfl) (Nat.le_of_ble_eq_true rfl) (hA.L0 hT (by decide)) (c_X11_needMotion hT hR.1 hM (by assumption)) (fun hP2 => ?_) (fun hN2 => (by first | exact Or.inr ⟨(by first | assumption | exact ⟨by omega, by omega⟩ | omega), rfl, rfl, rfl, rfl⟩ | exact Or.inl ⟨(by first | assumption | exact ⟨by omega, by omega⟩ | omega), Or.inr ⟨(by first | assumption | exact ⟨by omega, by omega⟩ | omega), rfl, rfl, rfl, rfl⟩⟩))
  refine z_il2 eX11_carries_5 ?_
  refine z_iconst eX11_carries_6 ?_
  refine z_bipush eX11_carries_7 (by decide) ?_
  refine z_ndS3 (n := 0) eX11_carries_9 vX11_226 rfl rfl (Nat.le_of_ble_eq_true rfl) (Nat.le_of_ble_eq_true rfl) (c_X11_needNumber hT (by assumption) ⟨by omega, by omega⟩ ⟨by omega, by omega⟩) (fun hP9 => ?_) (fun hN9 => (by first | exact Or.inr ⟨(by first | assumption | exact ⟨by omega, by omega⟩ | omega), rfl, rfl, rfl, rfl⟩ | exact Or.inl ⟨(by first | assumption | exact ⟨by omega, by omega⟩ | omega), Or.inr ⟨(by first | assumption | exact ⟨by omega, by omega⟩ | omega), rfl, rfl, rfl, rfl⟩⟩))
  refine z_al0 eX11_carries_12 hne ?_
  first | refine z_ta0 lX11_20 eX11_carries_13 rfl hT hA (by decide) rfl rfl ?_ | refine z_ta lX11_20 eX11_carries_13 rfl hT hA ⟨by decide, by decide⟩ rfl rfl ?_
  first | refine z_ta0 lX11_194 eX11_carries_16 rfl hT hD (by decide) rfl rfl ?_ | refine z_ta lX11_194 eX11_carries_16 rfl hT hD ⟨by decide, by decide⟩ rfl rfl ?_
  refine z_V0vz eX11_carries_19 vX11_255 rfl rfl (Nat.le_of_ble_eq_true rfl) (Nat.le_of_ble_eq_true rfl) ((hD.we).L0 hT (by decide)) (c_X9_startChances hT hD.we hR.1.we hM.ol.1) (fun s19 hs19 => ?_)
  refine z_iconst eX11_carries_22 ?_
  refine z_is3 eX11_carries_23 (Nat.ne_of_beq_eq_false rfl) ?_
  refine hl _ (fun S q C hS hq => ?_) hP2 hP9 0 (by decide) (by omega) s19 hs19
  have e2 : S (0 + 2) = σ (0 + 2) := hS.1 _ (by omega)
  have hz := hq.2
  rw [e2] at hz
  have hR1 := hS.R hR hM.I
  exact Or.inl ⟨hP2, Or.inl ⟨hP9, zYe ⟨fun i hi => by rw [hq.1 i (by omega)]; exact hS.1 i (by omega), ⟨hR1.1.o17 hq.1, by rw [hq.1 (0 + 2) (by omega)]; exact hR1.2.cg' hq.2⟩, hz⟩ rfl⟩⟩
