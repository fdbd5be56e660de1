/-! The acts. -/
theorem qPapM_o {M : Int → Int} {k h j : Int} (hh : 0 ≤ h ∧ h < 12) (hj : ¬ (114 ≤ j ∧ j < 126)) : qPapM M k h j = M j := by
  have hq := qstands_sp M k 12
  have e12 : ((12 : Nat) : Int) = 12 := rfl
  rw [e12] at hq
  unfold qPapM
  by_cases c : qstands M k 12 = -1 ∨ qstands M k 12 = h
  · rw [if_pos c, zput_ne (by omega)]
  · rw [if_neg c, zput_ne (by rcases hq with z | z <;> omega), zput_ne (by omega)]
theorem c_X11_seat {G : zG} {lay : zLay} {σ C0 : zMem} {nx x : Int} (hT : TopL lay x) {p v n : Int} {A : Int → Int → Int} {M : Int → Int} (hN : CoN σ (0 + 2) M) (hL : CoL lay x C0 (σ (0 + 2) 10) M) (hM : zOC M) (hP : PaR lay x C0 σ n A) (hp : zin p) (hv : zin v) : zMM G 8 KX11_seat [zP (x + 0), zI p, zI v] lay (tC x σ C0) nx (2, 12) (zGd (0 ≤ p ∧ p < M 3) zEb lay (tC x σ C0) nx (zGd (0 ≤ v ∧ v ≤ 20) zEa lay (tC x σ C0) nx (zZ' (some (zI (M (46 + 4 * p + 1)))) (fun s => zActed lay x C0 σ n A M (zput M (46 + 4 * p + 1) v) s) lay C0 nx x))) := by
  refine z_met' (L := [zP (x + 0), zI p, zI v, zU]) gX11_seat.1 rfl rfl (Nat.le_of_ble_eq_true rfl) rfl ?_
  have hA := TpAt
  have hx := hT.1
  have hne : x + 0 ≠ -1 := by omega
  have hD := isCo.now
  have hm3 := hM.I.m3
  refine z_al0 eX11_seat_0 hne ?_
  refine z_il1 eX11_seat_1 ?_
  refine z_ndV1 (n := 1) eX11_seat_2 vX11_131 rfl rfl (Nat.le_of_ble_eq_true rfl) (Nat.le_of_ble_eq_true rfl) (hA.L0 hT (by decide)) (c_X11_needMember hT hN hM.I (by assumption)) (fun hP2 => ?_) (fun hN2 => (by first | exact Or.inr ⟨(by first | assumption | exact ⟨by omega, by omega⟩ | omega), rfl, rfl, rfl, rfl⟩ | exact Or.inl ⟨(by first | assumption | exact ⟨by omega, by omega⟩ | omega), Or.inr ⟨(by first | assumption | exact ⟨by omega, by omega⟩ | omega), rfl, rfl, rfl, rfl⟩⟩))
  refine z_il2 eX11_seat_5 ?_
  refine z_iconst eX11_seat_6 ?_
  refine z_bipush eX11_seat_7 (by decide) ?_
  refine z_ndS3 (n := 0) eX11_seat_9 vX11_226 rfl rfl (Nat.le_of_ble_eq_true rfl) (Nat.le_of_ble_eq_true rfl) (c_X11_needNumber hT (by assumption) ⟨by omega, by omega⟩ ⟨by omega, by omega⟩) (fun hP9 => ?_) (fun hN9 => (by first | exact Or.inr ⟨(by first | assumption | exact ⟨by omega, by omega⟩ | omega), rfl, rfl, rfl, rfl⟩ | exact Or.inl ⟨(by first | assumption | exact ⟨by omega, by omega⟩ | omega), Or.inr ⟨(by first | assumption | exact ⟨by omega, by omega⟩ | omega), rfl, rfl, rfl, rfl⟩⟩))
  refine z_al0 eX11_seat_12 hne ?_
  refine z_V0vz eX11_seat_13 vX11_230 rfl rfl (Nat.le_of_ble_eq_true rfl) (Nat.le_of_ble_eq_true rfl) ((hA).L0 hT (by decide)) (c_X11_rememberNow hT hN hL hM.I hP) (fun s13 hs13 => ?_)
  have hN1 := hs13.1.N hN
  refine z_al0 eX11_seat_16 hne ?_
  first | refine z_ta0 lX11_20 eX11_seat_17 rfl hT hA (by decide) rfl rfl ?_ | refine z_ta lX11_20 eX11_seat_17 rfl hT hA ⟨by decide, by decide⟩ rfl rfl ?_
  first | refine z_ta0 lX11_137 eX11_seat_20 rfl hT hD (by decide) rfl rfl ?_ | refine z_ta lX11_137 eX11_seat_20 rfl hT hD ⟨by decide, by decide⟩ rfl rfl ?_
  refine z_il1 eX11_seat_23 ?_
  refine z_tl eX11_seat_24 hT hD ⟨by decide, by decide⟩ rfl rfl ⟨by omega, by omega⟩ ?_
  rw [hN1.se p hP2.1 hP2.2]
  refine z_is3 eX11_seat_25 (Nat.ne_of_beq_eq_false rfl) ?_
  refine z_al0 eX11_seat_26 hne ?_
  first | refine z_ta0 lX11_20 eX11_seat_27 rfl hT hA (by decide) rfl rfl ?_ | refine z_ta lX11_20 eX11_seat_27 rfl hT hA ⟨by decide, by decide⟩ rfl rfl ?_
  first | refine z_ta0 lX11_137 eX11_seat_30 rfl hT hD (by decide) rfl rfl ?_ | refine z_ta lX11_137 eX11_seat_30 rfl hT hD ⟨by decide, by decide⟩ rfl rfl ?_
  refine z_il1 eX11_seat_33 ?_
  refine z_il2 eX11_seat_34 ?_
  refine z_ts eX11_seat_35 hT hD ⟨by decide, by decide⟩ rfl rfl ⟨by omega, by omega⟩ ?_
  refine z_il3 eX11_seat_36 ?_
  refine z_ireturn eX11_seat_37 rfl ?_
  exact Or.inl ⟨hP2, Or.inl ⟨hP9, zZe (zActed.mk hs13 (fun i hi => zset_o (by omega)) (by rw [zset_o (by decide)]) (hN1.sea hM.I hP2)) rfl⟩⟩
theorem c_X11_walk {G : zG} {lay : zLay} {σ C0 : zMem} {nx x : Int} (hT : TopL lay x) {p v n : Int} {A : Int → Int → Int} {M : Int → Int} (hN : CoN σ (0 + 2) M) (hL : CoL lay x C0 (σ (0 + 2) 10) M) (hM : zOC M) (hP : PaR lay x C0 σ n A) (hp : zin p) (hv : zin v) : zMM G 8 KX11_walk [zP (x + 0), zI p, zI v] lay (tC x σ C0) nx (2, 12) (zGd (0 ≤ p ∧ p < M 3) zEb lay (tC x σ C0) nx (zGd (0 ≤ v ∧ v < 8) zEb lay (tC x σ C0) nx (zZ' (some (zI (M (46 + 4 * p + 0)))) (fun s => zActed lay x C0 σ n A M (zput M (46 + 4 * p + 0) v) s) lay C0 nx x))) := by
  refine z_met' (L := [zP (x + 0), zI p, zI v, zU]) gX11_walk.1 rfl rfl (Nat.le_of_ble_eq_true rfl) rfl ?_
  have hA := TpAt
  have hx := hT.1
  have hne : x + 0 ≠ -1 := by omega
  have hD := isCo.now
  have hm3 := hM.I.m3
  refine z_al0 eX11_walk_0 hne ?_
  refine z_il1 eX11_walk_1 ?_
  refine z_ndV1 (n := 1) eX11_walk_2 vX11_131 rfl rfl (Nat.le_of_ble_eq_true rfl) (Nat.le_of_ble_eq_true rfl) (hA.L0 hT (by decide)) (c_X11_needMember hT hN hM.I (by assumption)) (fun hP2 => ?_) (fun hN2 => (by first | exact Or.inr ⟨(by first | assumption | exact ⟨by omega, by omega⟩ | omega), rfl, rfl, rfl, rfl⟩ | exact Or.inl ⟨(by first | assumption | exact ⟨by omega, by omega⟩ | omega), Or.inr ⟨(by first | assumption | exact ⟨by omega, by omega⟩ | omega), rfl, rfl, rfl, rfl⟩⟩))
  refine z_il2 eX11_walk_5 ?_
  refine z_ndS1 (n := 0) eX11_walk_6 vX11_203 rfl rfl (Nat.le_of_ble_eq_true rfl) (Nat.le_of_ble_eq_true rfl) (c_X11_needPlace hT (by assumption)) (fun hP6 => ?_) (fun hN6 => (by first | exact Or.inr ⟨(by first | assumption | exact ⟨by omega, by omega⟩ | omega), rfl, rfl, rfl, rfl⟩ | exact Or.inl ⟨(by first | assumption | exact ⟨by omega, by omega⟩ | omega), Or.inr ⟨(by first | assumption | exact ⟨by omega, by omega⟩ | omega), rfl, rfl, rfl, rfl⟩⟩))
  refine z_al0 eX11_walk_9 hne ?_
  refine z_V0vz eX11_walk_10 vX11_230 rfl rfl (Nat.le_of_ble_eq_true rfl) (Nat.le_of_ble_eq_true rfl) ((hA).L0 hT (by decide)) (c_X11_rememberNow hT hN hL hM.I hP) (fun s10 hs10 => ?_)
  have hN1 := hs10.1.N hN
  refine z_al0 eX11_walk_13 hne ?_
  first | refine z_ta0 lX11_20 eX11_walk_14 rfl hT hA (by decide) rfl rfl ?_ | refine z_ta lX11_20 eX11_walk_14 rfl hT hA ⟨by decide, by decide⟩ rfl rfl ?_
  first | refine z_ta0 lX11_134 eX11_walk_17 rfl hT hD (by decide) rfl rfl ?_ | refine z_ta lX11_134 eX11_walk_17 rfl hT hD ⟨by decide, by decide⟩ rfl rfl ?_
  refine z_il1 eX11_walk_20 ?_
  refine z_tl eX11_walk_21 hT hD ⟨by decide, by decide⟩ rfl rfl ⟨by omega, by omega⟩ ?_
  rw [hN1.pl p hP2.1 hP2.2]
  refine z_is3 eX11_walk_22 (Nat.ne_of_beq_eq_false rfl) ?_
  refine z_al0 eX11_walk_23 hne ?_
  first | refine z_ta0 lX11_20 eX11_walk_24 rfl hT hA (by decide) rfl rfl ?_ | refine z_ta lX11_20 eX11_walk_24 rfl hT hA ⟨by decide, by decide⟩ rfl rfl ?_
  first | refine z_ta0 lX11_134 eX11_walk_27 rfl hT hD (by decide) rfl rfl ?_ | refine z_ta lX11_134 eX11_walk_27 rfl hT hD ⟨by decide, by decide⟩ rfl rfl ?_
  refine z_il1 eX11_walk_30 ?_
  refine z_il2 eX11_walk_31 ?_
  refine z_ts eX11_walk_32 hT hD ⟨by decide, by decide⟩ rfl rfl ⟨by omega, by omega⟩ ?_
  refine z_il3 eX11_walk_33 ?_
  refine z_ireturn eX11_walk_34 rfl ?_
  exact Or.inl ⟨hP2, Or.inl ⟨hP6, zZe (zActed.mk hs10 (fun i hi => zset_o (by omega)) (by rw [zset_o (by decide)]) (hN1.plc hM.I hP2)) rfl⟩⟩
theorem c_X11_clear {G : zG} {lay : zLay} {σ C0 : zMem} {nx x : Int} (hT : TopL lay x) {h n : Int} {A : Int → Int → Int} {M : Int → Int} (hN : CoN σ (0 + 2) M) (hL : CoL lay x C0 (σ (0 + 2) 10) M) (hM : zOC M) (hP : PaR lay x C0 σ n A) (hh : zin h) : zMM G 8 KX11_clear [zP (x + 0), zI h] lay (tC x σ C0) nx (2, 12) (zGd (0 ≤ h ∧ h < 12) zEb lay (tC x σ C0) nx (zGd (¬ M (114 + h) = -1) zEs lay (tC x σ C0) nx (zZ' (some (zI (M (114 + h)))) (fun s => zActed lay x C0 σ n A M (zput M (114 + h) (-1)) s) lay C0 nx x))) := by
  refine z_met' (L := [zP (x + 0), zI h, zU]) gX11_clear.1 rfl rfl (Nat.le_of_ble_eq_true rfl) rfl ?_
  have hA := TpAt
  have hx := hT.1
  have hne : x + 0 ≠ -1 := by omega
  have hD := isCo.now
  refine z_il1 eX11_clear_0 ?_
  refine z_ndS1 (n := 1) eX11_clear_1 vX11_209 rfl rfl (Nat.le_of_ble_eq_true rfl) (Nat.le_of_ble_eq_true rfl) (c_X11_needHour hT (by assumption)) (fun hP1 => ?_) (fun hN1 => (by first | exact Or.inr ⟨(by first | assumption | exact ⟨by omega, by omega⟩ | omega), rfl, rfl, rfl, rfl⟩ | exact Or.inl ⟨(by first | assumption | exact ⟨by omega, by omega⟩ | omega), Or.inr ⟨(by first | assumption | exact ⟨by omega, by omega⟩ | omega), rfl, rfl, rfl, rfl⟩⟩))
  refine z_al0 eX11_clear_4 hne ?_
  first | refine z_ta0 lX11_20 eX11_clear_5 rfl hT hA (by decide) rfl rfl ?_ | refine z_ta lX11_20 eX11_clear_5 rfl hT hA ⟨by decide, by decide⟩ rfl rfl ?_
  first | refine z_ta0 lX11_154 eX11_clear_8 rfl hT hD (by decide) rfl rfl ?_ | refine z_ta lX11_154 eX11_clear_8 rfl hT hD ⟨by decide, by decide⟩ rfl rfl ?_
  first | refine z_ta0 lX11_212 eX11_clear_11 rfl hT hD.mo (by decide) rfl rfl ?_ | refine z_ta lX11_212 eX11_clear_11 rfl hT hD.mo ⟨by decide, by decide⟩ rfl rfl ?_
  refine z_il1 eX11_clear_14 ?_
  refine z_tl eX11_clear_15 hT hD.mo ⟨by decide, by decide⟩ rfl rfl ⟨by omega, by omega⟩ ?_
  rw [hN.mo.2.2 h hP1.1 hP1.2]
  have hp8 := hM.I.P8 hP1
  refine z_is2 eX11_clear_16 (Nat.ne_of_beq_eq_false rfl) ?_
  refine z_il2 eX11_clear_17 ?_
  refine z_iconst eX11_clear_18 ?_
  refine z_icmp_ne (tgt := 32) eX11_clear_19 rfl ⟨⟨by omega, by omega⟩, ⟨by omega, by omega⟩⟩ (fun h19 => ?_) (fun h19 => ?_)
  · refine z_al0 eX11_clear_32 hne ?_
    refine z_V0vz eX11_clear_33 vX11_230 rfl rfl (Nat.le_of_ble_eq_true rfl) (Nat.le_of_ble_eq_true rfl) ((hA).L0 hT (by decide)) (c_X11_rememberNow hT hN hL hM.I hP) (fun s33 hs33 => ?_)
    have hN1 := hs33.1.N hN
    refine z_al0 eX11_clear_36 hne ?_
    first | refine z_ta0 lX11_20 eX11_clear_37 rfl hT hA (by decide) rfl rfl ?_ | refine z_ta lX11_20 eX11_clear_37 rfl hT hA ⟨by decide, by decide⟩ rfl rfl ?_
    first | refine z_ta0 lX11_154 eX11_clear_40 rfl hT hD (by decide) rfl rfl ?_ | refine z_ta lX11_154 eX11_clear_40 rfl hT hD ⟨by decide, by decide⟩ rfl rfl ?_
    first | refine z_ta0 lX11_212 eX11_clear_43 rfl hT hD.mo (by decide) rfl rfl ?_ | refine z_ta lX11_212 eX11_clear_43 rfl hT hD.mo ⟨by decide, by decide⟩ rfl rfl ?_
    refine z_il1 eX11_clear_46 ?_
    refine z_iconst eX11_clear_47 ?_
    refine z_ts eX11_clear_48 hT hD.mo ⟨by decide, by decide⟩ rfl rfl ⟨by omega, by omega⟩ ?_
    refine z_il2 eX11_clear_49 ?_
    refine z_ireturn eX11_clear_50 rfl ?_
    exact Or.inl ⟨hP1, Or.inl ⟨h19, zZe (zActed.mk hs33 (fun i hi => zset_o (by omega)) (by rw [zset_o (by decide)]) (hN1.pap hM.I hP1)) rfl⟩⟩
  · exact z_throw (sn := 54) rfl zth_244 rfl rfl eX11_clear_22 eX11_clear_25 eX11_clear_26 eX11_clear_28 eX11_clear_31 (Nat.le_of_ble_eq_true rfl) ⟨(Nat.le_of_ble_eq_true rfl), (Nat.le_of_ble_eq_true rfl)⟩ (by first | exact Or.inr ⟨(by first | assumption | exact ⟨by omega, by omega⟩ | omega), rfl, rfl, rfl, rfl⟩ | exact Or.inl ⟨(by first | assumption | exact ⟨by omega, by omega⟩ | omega), Or.inr ⟨(by first | assumption | exact ⟨by omega, by omega⟩ | omega), rfl, rfl, rfl, rfl⟩⟩)
theorem c_X11_renew {G : zG} {lay : zLay} {σ C0 : zMem} {nx x : Int} (hT : TopL lay x) {k n : Int} {A : Int → Int → Int} {M : Int → Int} (hN : CoN σ (0 + 2) M) (hL : CoL lay x C0 (σ (0 + 2) 10) M) (hM : zOC M) (hP : PaR lay x C0 σ n A) (hk : zin k) : zMM G 8 KX11_renew [zP (x + 0), zI k] lay (tC x σ C0) nx (2, 12) (zGd (0 ≤ k ∧ k < M 4) zEb lay (tC x σ C0) nx (zGd (2 ≤ M (74 + 5 * k + 4)) zEs lay (tC x σ C0) nx (zZ' (some (zI (M (74 + 5 * k + 4)))) (fun s => zActed lay x C0 σ n A M (zput M (74 + 5 * k + 4) 0) s) lay C0 nx x))) := by
  refine z_met' (L := [zP (x + 0), zI k, zU]) gX11_renew.1 rfl rfl (Nat.le_of_ble_eq_true rfl) rfl ?_
  have hA := TpAt
  have hx := hT.1
  have hne : x + 0 ≠ -1 := by omega
  have hD := isCo.now
  have hm4 := hM.I.m4
  refine z_al0 eX11_renew_0 hne ?_
  refine z_il1 eX11_renew_1 ?_
  refine z_ndV1 (n := 1) eX11_renew_2 vX11_168 rfl rfl (Nat.le_of_ble_eq_true rfl) (Nat.le_of_ble_eq_true rfl) (hA.L0 hT (by decide)) (c_X11_needMotion hT hN hM (by assumption)) (fun hP2 => ?_) (fun hN2 => (by first | exact Or.inr ⟨(by first | assumption | exact ⟨by omega, by omega⟩ | omega), rfl, rfl, rfl, rfl⟩ | exact Or.inl ⟨(by first | assumption | exact ⟨by omega, by omega⟩ | omega), Or.inr ⟨(by first | assumption | exact ⟨by omega, by omega⟩ | omega), rfl, rfl, rfl, rfl⟩⟩))
  refine z_al0 eX11_renew_5 hne ?_
  first | refine z_ta0 lX11_20 eX11_renew_6 rfl hT hA (by decide) rfl rfl ?_ | refine z_ta lX11_20 eX11_renew_6 rfl hT hA ⟨by decide, by decide⟩ rfl rfl ?_
  first | refine z_ta0 lX11_154 eX11_renew_9 rfl hT hD (by decide) rfl rfl ?_ | refine z_ta lX11_154 eX11_renew_9 rfl hT hD ⟨by decide, by decide⟩ rfl rfl ?_
  first | refine z_ta0 lX11_183 eX11_renew_12 rfl hT hD.mo (by decide) rfl rfl ?_ | refine z_ta lX11_183 eX11_renew_12 rfl hT hD.mo ⟨by decide, by decide⟩ rfl rfl ?_
  refine z_il1 eX11_renew_15 ?_
  refine z_tl eX11_renew_16 hT hD.mo ⟨by decide, by decide⟩ rfl rfl ⟨by omega, by omega⟩ ?_
  rw [(hN.mo.2.1 k hP2.1 hP2.2).2.2.2.2]
  have hst := hM.I.st (k := k) ⟨hP2.1, by omega⟩
  refine z_is2 eX11_renew_17 (Nat.ne_of_beq_eq_false rfl) ?_
  refine z_il2 eX11_renew_18 ?_
  refine z_iconst eX11_renew_19 ?_
  refine z_icmp_eq (tgt := 38) eX11_renew_20 rfl ⟨⟨by omega, by omega⟩, ⟨by omega, by omega⟩⟩ (fun h20 => ?_) (fun h20 => ?_)
  · refine z_al0 eX11_renew_38 hne ?_
    refine z_V0vz eX11_renew_39 vX11_230 rfl rfl (Nat.le_of_ble_eq_true rfl) (Nat.le_of_ble_eq_true rfl) ((hA).L0 hT (by decide)) (c_X11_rememberNow hT hN hL hM.I hP) (fun s39 hs39 => ?_)
    have hN1 := hs39.1.N hN
    refine z_al0 eX11_renew_42 hne ?_
    first | refine z_ta0 lX11_20 eX11_renew_43 rfl hT hA (by decide) rfl rfl ?_ | refine z_ta lX11_20 eX11_renew_43 rfl hT hA ⟨by decide, by decide⟩ rfl rfl ?_
    first | refine z_ta0 lX11_154 eX11_renew_46 rfl hT hD (by decide) rfl rfl ?_ | refine z_ta lX11_154 eX11_renew_46 rfl hT hD ⟨by decide, by decide⟩ rfl rfl ?_
    first | refine z_ta0 lX11_183 eX11_renew_49 rfl hT hD.mo (by decide) rfl rfl ?_ | refine z_ta lX11_183 eX11_renew_49 rfl hT hD.mo ⟨by decide, by decide⟩ rfl rfl ?_
    refine z_il1 eX11_renew_52 ?_
    refine z_iconst eX11_renew_53 ?_
    refine z_ts eX11_renew_54 hT hD.mo ⟨by decide, by decide⟩ rfl rfl ⟨by omega, by omega⟩ ?_
    refine z_il2 eX11_renew_55 ?_
    refine z_ireturn eX11_renew_56 rfl ?_
    exact Or.inl ⟨hP2, Or.inl ⟨by omega, zZe (zActed.mk hs39 (fun i hi => zset_o (by omega)) (by rw [zset_o (by decide)]) (hN1.col hM.I hP2 (Or.inr rfl))) rfl⟩⟩
  · refine z_il2 eX11_renew_23 ?_
    refine z_iconst eX11_renew_24 ?_
    refine z_icmp_eq (tgt := 38) eX11_renew_25 rfl ⟨⟨by omega, by omega⟩, ⟨by omega, by omega⟩⟩ (fun h25 => ?_) (fun h25 => ?_)
    · refine z_al0 eX11_renew_38 hne ?_
      refine z_V0vz eX11_renew_39 vX11_230 rfl rfl (Nat.le_of_ble_eq_true rfl) (Nat.le_of_ble_eq_true rfl) ((hA).L0 hT (by decide)) (c_X11_rememberNow hT hN hL hM.I hP) (fun s39 hs39 => ?_)
      have hN1 := hs39.1.N hN
      refine z_al0 eX11_renew_42 hne ?_
      first | refine z_ta0 lX11_20 eX11_renew_43 rfl hT hA (by decide) rfl rfl ?_ | refine z_ta lX11_20 eX11_renew_43 rfl hT hA ⟨by decide, by decide⟩ rfl rfl ?_
      first | refine z_ta0 lX11_154 eX11_renew_46 rfl hT hD (by decide) rfl rfl ?_ | refine z_ta lX11_154 eX11_renew_46 rfl hT hD ⟨by decide, by decide⟩ rfl rfl ?_
      first | refine z_ta0 lX11_183 eX11_renew_49 rfl hT hD.mo (by decide) rfl rfl ?_ | refine z_ta lX11_183 eX11_renew_49 rfl hT hD.mo ⟨by decide, by decide⟩ rfl rfl ?_
      refine z_il1 eX11_renew_52 ?_
      refine z_iconst eX11_renew_53 ?_
      refine z_ts eX11_renew_54 hT hD.mo ⟨by decide, by decide⟩ rfl rfl ⟨by omega, by omega⟩ ?_
      refine z_il2 eX11_renew_55 ?_
      refine z_ireturn eX11_renew_56 rfl ?_
      exact Or.inl ⟨hP2, Or.inl ⟨by omega, zZe (zActed.mk hs39 (fun i hi => zset_o (by omega)) (by rw [zset_o (by decide)]) (hN1.col hM.I hP2 (Or.inr rfl))) rfl⟩⟩
    · exact z_throw (sn := 55) rfl zth_244 rfl rfl eX11_renew_28 eX11_renew_31 eX11_renew_32 eX11_renew_34 eX11_renew_37 (Nat.le_of_ble_eq_true rfl) ⟨(Nat.le_of_ble_eq_true rfl), (Nat.le_of_ble_eq_true rfl)⟩ (by first | exact Or.inr ⟨(by first | assumption | exact ⟨by omega, by omega⟩ | omega), rfl, rfl, rfl, rfl⟩ | exact Or.inl ⟨(by first | assumption | exact ⟨by omega, by omega⟩ | omega), Or.inr ⟨(by first | assumption | exact ⟨by omega, by omega⟩ | omega), rfl, rfl, rfl, rfl⟩⟩)
theorem c_X11_table {G : zG} {lay : zLay} {σ C0 : zMem} {nx x : Int} (hT : TopL lay x) {k h n : Int} {A : Int → Int → Int} {M : Int → Int} (hN : CoN σ (0 + 2) M) (hL : CoL lay x C0 (σ (0 + 2) 10) M) (hM : zOC M) (hP : PaR lay x C0 σ n A) (hk : zin k) (hh : zin h) : zMM G 8 KX11_table [zP (x + 0), zI k, zI h] lay (tC x σ C0) nx (3, 18) (zGd (0 ≤ k ∧ k < M 4) zEb lay (tC x σ C0) nx (zGd (0 ≤ h ∧ h < 12) zEb lay (tC x σ C0) nx (zGd (M (74 + 5 * k + 4) = 0) zEs lay (tC x σ C0) nx (zZ' (some (zI (M (114 + h)))) (fun s => zActed lay x C0 σ n A M (qPapM M k h) s) lay C0 nx x)))) := by
  refine z_met' (L := [zP (x + 0), zI k, zI h, zU]) gX11_table.1 rfl rfl (Nat.le_of_ble_eq_true rfl) rfl ?_
  have hA := TpAt
  have hx := hT.1
  have hne : x + 0 ≠ -1 := by omega
  have hD := isCo.now
  have hm4 := hM.I.m4
  refine z_al0 eX11_table_0 hne ?_
  refine z_il1 eX11_table_1 ?_
  refine z_ndV1 (n := 2) eX11_table_2 vX11_168 rfl rfl (Nat.le_of_ble_eq_true rfl) (Nat.le_of_ble_eq_true rfl) (hA.L0 hT (by decide)) (c_X11_needMotion hT hN hM (by assumption)) (fun hP2 => ?_) (fun hN2 => (by first | exact Or.inr ⟨(by first | assumption | exact ⟨by omega, by omega⟩ | omega), rfl, rfl, rfl, rfl⟩ | exact Or.inl ⟨(by first | assumption | exact ⟨by omega, by omega⟩ | omega), Or.inr ⟨(by first | assumption | exact ⟨by omega, by omega⟩ | omega), rfl, rfl, rfl, rfl⟩⟩ | exact Or.inl ⟨(by first | assumption | exact ⟨by omega, by omega⟩ | omega), Or.inl ⟨(by first | assumption | exact ⟨by omega, by omega⟩ | omega), Or.inr ⟨(by first | assumption | exact ⟨by omega, by omega⟩ | omega), rfl, rfl, rfl, rfl⟩⟩⟩))
  refine z_il2 eX11_table_5 ?_
  refine z_ndS1 (n := 1) eX11_table_6 vX11_209 rfl rfl (Nat.le_of_ble_eq_true rfl) (Nat.le_of_ble_eq_true rfl) (c_X11_needHour hT (by assumption)) (fun hP6 => ?_) (fun hN6 => (by first | exact Or.inr ⟨(by first | assumption | exact ⟨by omega, by omega⟩ | omega), rfl, rfl, rfl, rfl⟩ | exact Or.inl ⟨(by first | assumption | exact ⟨by omega, by omega⟩ | omega), Or.inr ⟨(by first | assumption | exact ⟨by omega, by omega⟩ | omega), rfl, rfl, rfl, rfl⟩⟩ | exact Or.inl ⟨(by first | assumption | exact ⟨by omega, by omega⟩ | omega), Or.inl ⟨(by first | assumption | exact ⟨by omega, by omega⟩ | omega), Or.inr ⟨(by first | assumption | exact ⟨by omega, by omega⟩ | omega), rfl, rfl, rfl, rfl⟩⟩⟩))
  refine z_al0 eX11_table_9 hne ?_
  refine z_il1 eX11_table_10 ?_
  refine z_ndV1 (n := 0) eX11_table_11 vX11_237 rfl rfl (Nat.le_of_ble_eq_true rfl) (Nat.le_of_ble_eq_true rfl) (hA.L0 hT (by decide)) (c_X11_needWaiting hT hN hM (by assumption)) (fun hP11 => ?_) (fun hN11 => (by first | exact Or.inr ⟨(by first | assumption | exact ⟨by omega, by omega⟩ | omega), rfl, rfl, rfl, rfl⟩ | exact Or.inl ⟨(by first | assumption | exact ⟨by omega, by omega⟩ | omega), Or.inr ⟨(by first | assumption | exact ⟨by omega, by omega⟩ | omega), rfl, rfl, rfl, rfl⟩⟩ | exact Or.inl ⟨(by first | assumption | exact ⟨by omega, by omega⟩ | omega), Or.inl ⟨(by first | assumption | exact ⟨by omega, by omega⟩ | omega), Or.inr ⟨(by first | assumption | exact ⟨by omega, by omega⟩ | omega), rfl, rfl, rfl, rfl⟩⟩⟩))
  refine z_al0 eX11_table_14 hne ?_
  refine z_V0vz eX11_table_15 vX11_230 rfl rfl (Nat.le_of_ble_eq_true rfl) (Nat.le_of_ble_eq_true rfl) ((hA).L0 hT (by decide)) (c_X11_rememberNow hT hN hL hM.I hP) (fun s15 hs15 => ?_)
  have hN1 := hs15.1.N hN
  refine z_al0 eX11_table_18 hne ?_
  first | refine z_ta0 lX11_20 eX11_table_19 rfl hT hA (by decide) rfl rfl ?_ | refine z_ta lX11_20 eX11_table_19 rfl hT hA ⟨by decide, by decide⟩ rfl rfl ?_
  first | refine z_ta0 lX11_154 eX11_table_22 rfl hT hD (by decide) rfl rfl ?_ | refine z_ta lX11_154 eX11_table_22 rfl hT hD ⟨by decide, by decide⟩ rfl rfl ?_
  first | refine z_ta0 lX11_212 eX11_table_25 rfl hT hD.mo (by decide) rfl rfl ?_ | refine z_ta lX11_212 eX11_table_25 rfl hT hD.mo ⟨by decide, by decide⟩ rfl rfl ?_
  refine z_il2 eX11_table_28 ?_
  refine z_tl eX11_table_29 hT hD.mo ⟨by decide, by decide⟩ rfl rfl ⟨by omega, by omega⟩ ?_
  rw [hN1.mo.2.2 h hP6.1 hP6.2]
  refine z_is3 eX11_table_30 (Nat.ne_of_beq_eq_false rfl) ?_
  refine z_al0 eX11_table_31 hne ?_
  first | refine z_ta0 lX11_20 eX11_table_32 rfl hT hA (by decide) rfl rfl ?_ | refine z_ta lX11_20 eX11_table_32 rfl hT hA ⟨by decide, by decide⟩ rfl rfl ?_
  first | refine z_ta0 lX11_154 eX11_table_35 rfl hT hD (by decide) rfl rfl ?_ | refine z_ta lX11_154 eX11_table_35 rfl hT hD ⟨by decide, by decide⟩ rfl rfl ?_
  refine z_il1 eX11_table_38 ?_
  refine z_il2 eX11_table_39 ?_
  refine z_V2vz eX11_table_40 vX11_240 rfl rfl (Nat.le_of_ble_eq_true rfl) (Nat.le_of_ble_eq_true rfl) ((hD.mo).L0 hT (by decide)) (c_X6_putOnPaper hT hD.mo hN1.mo hM.I hM.pap ⟨by omega, by omega⟩ ⟨by omega, by omega⟩) (fun s40 hs40 => ?_)
  refine z_il3 eX11_table_43 ?_
  refine z_ireturn eX11_table_44 rfl ?_
  exact Or.inl ⟨hP2, Or.inl ⟨hP6, Or.inl ⟨hP11, zZe (zActed.mk hs15 (fun i hi => hs40.1 i (by omega)) (by rw [hs40.1 (0 + 2) (by omega)]) (hN1.mot hM.I (fun i hi => hs40.1 i (by omega)) (fun j hj => qPapM_o hP6 (by omega)) hs40.2)) rfl⟩⟩⟩
theorem c_X11_hat {G : zG} {lay : zLay} {σ C0 : zMem} {nx x : Int} (hT : TopL lay x) {p v n : Int} {A : Int → Int → Int} {M : Int → Int} (hN : CoN σ (0 + 2) M) (hL : CoL lay x C0 (σ (0 + 2) 10) M) (hM : zOC M) (hP : PaR lay x C0 σ n A) (hp : zin p) (hv : v = 0 ∨ v = 1) : zMM G 8 KX11_hat [zP (x + 0), zI p, zI v] lay (tC x σ C0) nx (1, 6) (zGd (0 ≤ p ∧ p < M 3) zEb lay (tC x σ C0) nx (zZ' (some (zI (zbi (¬ M (46 + 4 * p + 2) = v)))) (fun s => zActed lay x C0 σ n A M (zput M (46 + 4 * p + 2) v) s) lay C0 nx x)) := by
  refine z_met' (L := [zP (x + 0), zI p, zI v, zU]) gX11_hat.1 rfl rfl (Nat.le_of_ble_eq_true rfl) rfl ?_
  have hA := TpAt
  have hx := hT.1
  have hne : x + 0 ≠ -1 := by omega
  have hD := isCo.now
  have hm3 := hM.I.m3
  refine z_al0 eX11_hat_0 hne ?_
  refine z_il1 eX11_hat_1 ?_
  refine z_ndV1 (n := 0) eX11_hat_2 vX11_131 rfl rfl (Nat.le_of_ble_eq_true rfl) (Nat.le_of_ble_eq_true rfl) (hA.L0 hT (by decide)) (c_X11_needMember hT hN hM.I (by assumption)) (fun hP2 => ?_) (fun hN2 => (by first | exact Or.inr ⟨(by first | assumption | exact ⟨by omega, by omega⟩ | omega), rfl, rfl, rfl, rfl⟩))
  refine z_al0 eX11_hat_5 hne ?_
  refine z_V0vz eX11_hat_6 vX11_230 rfl rfl (Nat.le_of_ble_eq_true rfl) (Nat.le_of_ble_eq_true rfl) ((hA).L0 hT (by decide)) (c_X11_rememberNow hT hN hL hM.I hP) (fun s6 hs6 => ?_)
  have hN1 := hs6.1.N hN
  have hf : ∀ t, 0 ≤ t → t < M 3 → M (46 + 4 * t + 2) = 0 ∨ M (46 + 4 * t + 2) = 1 := fun t t0 t1 => by have := hM.I.U (p := t) ⟨t0, by omega⟩; omega
  have hq := qWith_eq (f := fun t => M (46 + 4 * t + 2)) (n := M 3) (p := p) (v := v) ⟨hm3.1, by omega⟩ hP2 hf hv
  have hb := hN1.bit hM.I hP2 hv (Or.inl ⟨rfl, rfl⟩)
  have hqi := qWith_in (s6 (0 + 2) 4) p v
  have hq0 : zin (qHats M) := zors_in _ (by omega)
  have hqe := hN1.ha
  refine z_al0 eX11_hat_9 hne ?_
  first | refine z_ta0 lX11_20 eX11_hat_10 rfl hT hA (by decide) rfl rfl ?_ | refine z_ta lX11_20 eX11_hat_10 rfl hT hA ⟨by decide, by decide⟩ rfl rfl ?_
  first | refine z_tg0 (j := 4) lX11_140 eX11_hat_13 rfl hT hD (by decide) rfl rfl rfl ?_ | refine z_tg (j := 4) lX11_140 eX11_hat_13 rfl hT hD ⟨by decide, by decide⟩ rfl rfl rfl ?_
  refine z_is3 eX11_hat_16 (Nat.ne_of_beq_eq_false rfl) ?_
  refine z_al0 eX11_hat_17 hne ?_
  first | refine z_ta0 lX11_20 eX11_hat_18 rfl hT hA (by decide) rfl rfl ?_ | refine z_ta lX11_20 eX11_hat_18 rfl hT hA ⟨by decide, by decide⟩ rfl rfl ?_
  refine z_il3 eX11_hat_21 ?_
  refine z_il1 eX11_hat_22 ?_
  refine z_il2 eX11_hat_23 ?_
  refine z_S3 eX11_hat_24 vX11_249 rfl rfl (Nat.le_of_ble_eq_true rfl) (Nat.le_of_ble_eq_true rfl) (c_X11_withBit hT (by assumption)) ?_
  first | refine z_tp0 (j := 4) lX11_140 eX11_hat_27 rfl hT hD (by decide) rfl rfl rfl ?_ | refine z_tp (j := 4) lX11_140 eX11_hat_27 rfl hT hD ⟨by decide, by decide⟩ rfl rfl rfl ?_
  refine z_al0 eX11_hat_30 hne ?_
  first | refine z_ta0 lX11_20 eX11_hat_31 rfl hT hA (by decide) rfl rfl ?_ | refine z_ta lX11_20 eX11_hat_31 rfl hT hA ⟨by decide, by decide⟩ rfl rfl ?_
  first | refine z_tg0 (j := 4) lX11_140 eX11_hat_34 rfl hT hD (by decide) rfl rfl rfl ?_ | refine z_tg (j := 4) lX11_140 eX11_hat_34 rfl hT hD ⟨by decide, by decide⟩ rfl rfl rfl ?_
  rw [zset_eq]
  refine z_il3 eX11_hat_37 ?_
  refine z_icmp_eq (tgt := 45) eX11_hat_38 rfl ⟨hqi, by rw [hqe]; exact hq0⟩ (fun h38 => ?_) (fun h38 => ?_)
  · refine z_iconst eX11_hat_45 ?_
    refine z_zreturn eX11_hat_46 rfl (by first | exact Or.inl rfl | exact Or.inr rfl | exact zbi_01 _ | assumption | omega) ?_
    first | exact Or.inl ⟨hP2, zZe (zActed.mk hs6 (fun i hi => zset_o (by omega)) (zset_f (by decide)) hb) (zbi_t (fun z => h38 (by rw [hqe]; exact hq.mpr z))).symm⟩ | exact Or.inl ⟨hP2, zZe (zActed.mk hs6 (fun i hi => zset_o (by omega)) (zset_f (by decide)) hb) (zbi_f (fun z => z (hq.mp (by rw [hqe] at h38; exact h38)))).symm⟩
  · refine z_iconst eX11_hat_41 ?_
    refine z_goto eX11_hat_42 (tgt := 46) rfl ?_
    refine z_zreturn eX11_hat_46 rfl (by first | exact Or.inl rfl | exact Or.inr rfl | exact zbi_01 _ | assumption | omega) ?_
    first | exact Or.inl ⟨hP2, zZe (zActed.mk hs6 (fun i hi => zset_o (by omega)) (zset_f (by decide)) hb) (zbi_t (fun z => h38 (by rw [hqe]; exact hq.mpr z))).symm⟩ | exact Or.inl ⟨hP2, zZe (zActed.mk hs6 (fun i hi => zset_o (by omega)) (zset_f (by decide)) hb) (zbi_f (fun z => z (hq.mp (by rw [hqe] at h38; exact h38)))).symm⟩
theorem c_X11_out {G : zG} {lay : zLay} {σ C0 : zMem} {nx x : Int} (hT : TopL lay x) {p v n : Int} {A : Int → Int → Int} {M : Int → Int} (hN : CoN σ (0 + 2) M) (hL : CoL lay x C0 (σ (0 + 2) 10) M) (hM : zOC M) (hP : PaR lay x C0 σ n A) (hp : zin p) (hv : v = 0 ∨ v = 1) : zMM G 8 KX11_out [zP (x + 0), zI p, zI v] lay (tC x σ C0) nx (1, 6) (zGd (0 ≤ p ∧ p < M 3) zEb lay (tC x σ C0) nx (zZ' (some (zI (zbi (¬ M (46 + 4 * p + 3) = v)))) (fun s => zActed lay x C0 σ n A M (zput M (46 + 4 * p + 3) v) s) lay C0 nx x)) := by
  refine z_met' (L := [zP (x + 0), zI p, zI v, zU]) gX11_out.1 rfl rfl (Nat.le_of_ble_eq_true rfl) rfl ?_
  have hA := TpAt
  have hx := hT.1
  have hne : x + 0 ≠ -1 := by omega
  have hD := isCo.now
  have hm3 := hM.I.m3
  refine z_al0 eX11_out_0 hne ?_
  refine z_il1 eX11_out_1 ?_
  refine z_ndV1 (n := 0) eX11_out_2 vX11_131 rfl rfl (Nat.le_of_ble_eq_true rfl) (Nat.le_of_ble_eq_true rfl) (hA.L0 hT (by decide)) (c_X11_needMember hT hN hM.I (by assumption)) (fun hP2 => ?_) (fun hN2 => (by first | exact Or.inr ⟨(by first | assumption | exact ⟨by omega, by omega⟩ | omega), rfl, rfl, rfl, rfl⟩))
  refine z_al0 eX11_out_5 hne ?_
  refine z_V0vz eX11_out_6 vX11_230 rfl rfl (Nat.le_of_ble_eq_true rfl) (Nat.le_of_ble_eq_true rfl) ((hA).L0 hT (by decide)) (c_X11_rememberNow hT hN hL hM.I hP) (fun s6 hs6 => ?_)
  have hN1 := hs6.1.N hN
  have hf : ∀ t, 0 ≤ t → t < M 3 → M (46 + 4 * t + 3) = 0 ∨ M (46 + 4 * t + 3) = 1 := fun t t0 t1 => by have := hM.I.U (p := t) ⟨t0, by omega⟩; omega
  have hq := qWith_eq (f := fun t => M (46 + 4 * t + 3)) (n := M 3) (p := p) (v := v) ⟨hm3.1, by omega⟩ hP2 hf hv
  have hb := hN1.bit hM.I hP2 hv (Or.inr ⟨rfl, rfl⟩)
  have hqi := qWith_in (s6 (0 + 2) 5) p v
  have hq0 : zin (qOuts M) := zors_in _ (by omega)
  have hqe := hN1.ou
  refine z_al0 eX11_out_9 hne ?_
  first | refine z_ta0 lX11_20 eX11_out_10 rfl hT hA (by decide) rfl rfl ?_ | refine z_ta lX11_20 eX11_out_10 rfl hT hA ⟨by decide, by decide⟩ rfl rfl ?_
  first | refine z_tg0 (j := 5) lX11_147 eX11_out_13 rfl hT hD (by decide) rfl rfl rfl ?_ | refine z_tg (j := 5) lX11_147 eX11_out_13 rfl hT hD ⟨by decide, by decide⟩ rfl rfl rfl ?_
  refine z_is3 eX11_out_16 (Nat.ne_of_beq_eq_false rfl) ?_
  refine z_al0 eX11_out_17 hne ?_
  first | refine z_ta0 lX11_20 eX11_out_18 rfl hT hA (by decide) rfl rfl ?_ | refine z_ta lX11_20 eX11_out_18 rfl hT hA ⟨by decide, by decide⟩ rfl rfl ?_
  refine z_il3 eX11_out_21 ?_
  refine z_il1 eX11_out_22 ?_
  refine z_il2 eX11_out_23 ?_
  refine z_S3 eX11_out_24 vX11_249 rfl rfl (Nat.le_of_ble_eq_true rfl) (Nat.le_of_ble_eq_true rfl) (c_X11_withBit hT (by assumption)) ?_
  first | refine z_tp0 (j := 5) lX11_147 eX11_out_27 rfl hT hD (by decide) rfl rfl rfl ?_ | refine z_tp (j := 5) lX11_147 eX11_out_27 rfl hT hD ⟨by decide, by decide⟩ rfl rfl rfl ?_
  refine z_al0 eX11_out_30 hne ?_
  first | refine z_ta0 lX11_20 eX11_out_31 rfl hT hA (by decide) rfl rfl ?_ | refine z_ta lX11_20 eX11_out_31 rfl hT hA ⟨by decide, by decide⟩ rfl rfl ?_
  first | refine z_tg0 (j := 5) lX11_147 eX11_out_34 rfl hT hD (by decide) rfl rfl rfl ?_ | refine z_tg (j := 5) lX11_147 eX11_out_34 rfl hT hD ⟨by decide, by decide⟩ rfl rfl rfl ?_
  rw [zset_eq]
  refine z_il3 eX11_out_37 ?_
  refine z_icmp_eq (tgt := 45) eX11_out_38 rfl ⟨hqi, by rw [hqe]; exact hq0⟩ (fun h38 => ?_) (fun h38 => ?_)
  · refine z_iconst eX11_out_45 ?_
    refine z_zreturn eX11_out_46 rfl (by first | exact Or.inl rfl | exact Or.inr rfl | exact zbi_01 _ | assumption | omega) ?_
    first | exact Or.inl ⟨hP2, zZe (zActed.mk hs6 (fun i hi => zset_o (by omega)) (zset_f (by decide)) hb) (zbi_t (fun z => h38 (by rw [hqe]; exact hq.mpr z))).symm⟩ | exact Or.inl ⟨hP2, zZe (zActed.mk hs6 (fun i hi => zset_o (by omega)) (zset_f (by decide)) hb) (zbi_f (fun z => z (hq.mp (by rw [hqe] at h38; exact h38)))).symm⟩
  · refine z_iconst eX11_out_41 ?_
    refine z_goto eX11_out_42 (tgt := 46) rfl ?_
    refine z_zreturn eX11_out_46 rfl (by first | exact Or.inl rfl | exact Or.inr rfl | exact zbi_01 _ | assumption | omega) ?_
    first | exact Or.inl ⟨hP2, zZe (zActed.mk hs6 (fun i hi => zset_o (by omega)) (zset_f (by decide)) hb) (zbi_t (fun z => h38 (by rw [hqe]; exact hq.mpr z))).symm⟩ | exact Or.inl ⟨hP2, zZe (zActed.mk hs6 (fun i hi => zset_o (by omega)) (zset_f (by decide)) hb) (zbi_f (fun z => z (hq.mp (by rw [hqe] at h38; exact h38)))).symm⟩
theorem c_X11_mind {G : zG} {lay : zLay} {σ C0 : zMem} {nx x : Int} (hT : TopL lay x) {p k n : Int} {A : Int → Int → Int} {M : Int → Int} (hN : CoN σ (0 + 2) M) (hL : CoL lay x C0 (σ (0 + 2) 10) M) (hM : zOC M) (hP : PaR lay x C0 σ n A) (hp : zin p) (hk : zin k) : zMM G 8 KX11_mind [zP (x + 0), zI p, zI k] lay (tC x σ C0) nx (3, 18) (zGd (0 ≤ p ∧ p < M 3) zEb lay (tC x σ C0) nx (zGd (0 ≤ k ∧ k < M 4) zEb lay (tC x σ C0) nx (zGd (M (74 + 5 * k + 4) = 0) zEs lay (tC x σ C0) nx (zZ' (some (zI (zbit (zxor (M (74 + 5 * k + 3)) (zshl 1 p)) p))) (fun s => zActed lay x C0 σ n A M (zput M (74 + 5 * k + 3) (zxor (M (74 + 5 * k + 3)) (zshl 1 p))) s) lay C0 nx x)))) := by
  refine z_met' (L := [zP (x + 0), zI p, zI k]) gX11_mind.1 rfl rfl (Nat.le_of_ble_eq_true rfl) rfl ?_
  have hA := TpAt
  have hx := hT.1
  have hne : x + 0 ≠ -1 := by omega
  have hD := isCo.now
  have hm3 := hM.I.m3
  have hm4 := hM.I.m4
  have h01 := zbit_01 (zxor (M (74 + 5 * k + 3)) (zshl 1 p)) p
  refine z_al0 eX11_mind_0 hne ?_
  refine z_il1 eX11_mind_1 ?_
  refine z_ndV1 (n := 2) eX11_mind_2 vX11_131 rfl rfl (Nat.le_of_ble_eq_true rfl) (Nat.le_of_ble_eq_true rfl) (hA.L0 hT (by decide)) (c_X11_needMember hT hN hM.I (by assumption)) (fun hP2 => ?_) (fun hN2 => (by first | exact Or.inr ⟨(by first | assumption | exact ⟨by omega, by omega⟩ | omega), rfl, rfl, rfl, rfl⟩ | exact Or.inl ⟨(by first | assumption | exact ⟨by omega, by omega⟩ | omega), Or.inr ⟨(by first | assumption | exact ⟨by omega, by omega⟩ | omega), rfl, rfl, rfl, rfl⟩⟩ | exact Or.inl ⟨(by first | assumption | exact ⟨by omega, by omega⟩ | omega), Or.inl ⟨(by first | assumption | exact ⟨by omega, by omega⟩ | omega), Or.inr ⟨(by first | assumption | exact ⟨by omega, by omega⟩ | omega), rfl, rfl, rfl, rfl⟩⟩⟩))
  refine z_al0 eX11_mind_5 hne ?_
  refine z_il2 eX11_mind_6 ?_
  refine z_ndV1 (n := 1) eX11_mind_7 vX11_168 rfl rfl (Nat.le_of_ble_eq_true rfl) (Nat.le_of_ble_eq_true rfl) (hA.L0 hT (by decide)) (c_X11_needMotion hT hN hM (by assumption)) (fun hP7 => ?_) (fun hN7 => (by first | exact Or.inr ⟨(by first | assumption | exact ⟨by omega, by omega⟩ | omega), rfl, rfl, rfl, rfl⟩ | exact Or.inl ⟨(by first | assumption | exact ⟨by omega, by omega⟩ | omega), Or.inr ⟨(by first | assumption | exact ⟨by omega, by omega⟩ | omega), rfl, rfl, rfl, rfl⟩⟩ | exact Or.inl ⟨(by first | assumption | exact ⟨by omega, by omega⟩ | omega), Or.inl ⟨(by first | assumption | exact ⟨by omega, by omega⟩ | omega), Or.inr ⟨(by first | assumption | exact ⟨by omega, by omega⟩ | omega), rfl, rfl, rfl, rfl⟩⟩⟩))
  refine z_al0 eX11_mind_10 hne ?_
  refine z_il2 eX11_mind_11 ?_
  refine z_ndV1 (n := 0) eX11_mind_12 vX11_237 rfl rfl (Nat.le_of_ble_eq_true rfl) (Nat.le_of_ble_eq_true rfl) (hA.L0 hT (by decide)) (c_X11_needWaiting hT hN hM (by assumption)) (fun hP12 => ?_) (fun hN12 => (by first | exact Or.inr ⟨(by first | assumption | exact ⟨by omega, by omega⟩ | omega), rfl, rfl, rfl, rfl⟩ | exact Or.inl ⟨(by first | assumption | exact ⟨by omega, by omega⟩ | omega), Or.inr ⟨(by first | assumption | exact ⟨by omega, by omega⟩ | omega), rfl, rfl, rfl, rfl⟩⟩ | exact Or.inl ⟨(by first | assumption | exact ⟨by omega, by omega⟩ | omega), Or.inl ⟨(by first | assumption | exact ⟨by omega, by omega⟩ | omega), Or.inr ⟨(by first | assumption | exact ⟨by omega, by omega⟩ | omega), rfl, rfl, rfl, rfl⟩⟩⟩))
  refine z_al0 eX11_mind_15 hne ?_
  refine z_V0vz eX11_mind_16 vX11_230 rfl rfl (Nat.le_of_ble_eq_true rfl) (Nat.le_of_ble_eq_true rfl) ((hA).L0 hT (by decide)) (c_X11_rememberNow hT hN hL hM.I hP) (fun s16 hs16 => ?_)
  have hN1 := hs16.1.N hN
  have hb := fun v => hN1.col (v := v) hM.I hP7 (Or.inl rfl)
  refine z_al0 eX11_mind_19 hne ?_
  first | refine z_ta0 lX11_20 eX11_mind_20 rfl hT hA (by decide) rfl rfl ?_ | refine z_ta lX11_20 eX11_mind_20 rfl hT hA ⟨by decide, by decide⟩ rfl rfl ?_
  first | refine z_ta0 lX11_154 eX11_mind_23 rfl hT hD (by decide) rfl rfl ?_ | refine z_ta lX11_154 eX11_mind_23 rfl hT hD ⟨by decide, by decide⟩ rfl rfl ?_
  first | refine z_ta0 lX11_180 eX11_mind_26 rfl hT hD.mo (by decide) rfl rfl ?_ | refine z_ta lX11_180 eX11_mind_26 rfl hT hD.mo ⟨by decide, by decide⟩ rfl rfl ?_
  refine z_il2 eX11_mind_29 ?_
  refine z_dup2 eX11_mind_30 (Nat.ne_of_beq_eq_false rfl) (Nat.ne_of_beq_eq_false rfl) ?_
  refine z_tl eX11_mind_31 hT hD.mo ⟨by decide, by decide⟩ rfl rfl ⟨by omega, by omega⟩ ?_
  rw [(hN1.mo.2.1 k hP7.1 hP7.2).2.2.2.1]
  refine z_iconst eX11_mind_32 ?_
  refine z_il1 eX11_mind_33 ?_
  refine z_ishl eX11_mind_34 ?_
  refine z_ixor eX11_mind_35 ?_
  refine z_ts eX11_mind_36 hT hD.mo ⟨by decide, by decide⟩ rfl rfl ⟨by omega, by omega⟩ ?_
  refine z_al0 eX11_mind_37 hne ?_
  first | refine z_ta0 lX11_20 eX11_mind_38 rfl hT hA (by decide) rfl rfl ?_ | refine z_ta lX11_20 eX11_mind_38 rfl hT hA ⟨by decide, by decide⟩ rfl rfl ?_
  first | refine z_ta0 lX11_154 eX11_mind_41 rfl hT hD (by decide) rfl rfl ?_ | refine z_ta lX11_154 eX11_mind_41 rfl hT hD ⟨by decide, by decide⟩ rfl rfl ?_
  first | refine z_ta0 lX11_180 eX11_mind_44 rfl hT hD.mo (by decide) rfl rfl ?_ | refine z_ta lX11_180 eX11_mind_44 rfl hT hD.mo ⟨by decide, by decide⟩ rfl rfl ?_
  refine z_il2 eX11_mind_47 ?_
  refine z_tl eX11_mind_48 hT hD.mo ⟨by decide, by decide⟩ rfl rfl ⟨by omega, by omega⟩ ?_
  rw [zset_eq]
  refine z_il1 eX11_mind_49 ?_
  refine z_S2 eX11_mind_50 vX11_143 rfl rfl (Nat.le_of_ble_eq_true rfl) (Nat.le_of_ble_eq_true rfl) (c_X11_bitOf hT ⟨by omega, by omega⟩) ?_
  refine z_iconst eX11_mind_53 ?_
  refine z_icmp_ne (tgt := 61) eX11_mind_54 rfl ⟨⟨by omega, by omega⟩, ⟨by omega, by omega⟩⟩ (fun h54 => ?_) (fun h54 => ?_)
  · refine z_iconst eX11_mind_61 ?_
    refine z_zreturn eX11_mind_62 rfl (by first | exact Or.inl rfl | exact Or.inr rfl | exact zbi_01 _ | assumption | omega) ?_
    first | exact Or.inl ⟨hP2, Or.inl ⟨hP7, Or.inl ⟨hP12, zZe (zActed.mk hs16 (fun i hi => zset_o (by omega)) (by rw [zset_o (by decide)]) (hb _)) (by omega)⟩⟩⟩ | skip
  · refine z_iconst eX11_mind_57 ?_
    refine z_goto eX11_mind_58 (tgt := 62) rfl ?_
    refine z_zreturn eX11_mind_62 rfl (by first | exact Or.inl rfl | exact Or.inr rfl | exact zbi_01 _ | assumption | omega) ?_
    first | exact Or.inl ⟨hP2, Or.inl ⟨hP7, Or.inl ⟨hP12, zZe (zActed.mk hs16 (fun i hi => zset_o (by omega)) (by rw [zset_o (by decide)]) (hb _)) (by omega)⟩⟩⟩ | skip
