/-! Words, on. -/
theorem c_X10_fail {G : zG} {lay : zLay} {σ C0 : zMem} {nx x w e a f : Int} {T : Int → Int} (hT : TopL lay x) (hX : TxC x σ w T e) (ha : 0 ≤ a ∧ a ≤ e) (hf : zin f) : zMM G 1 KX10_fail [zP (x + w)] lay (tC x (zTk σ w T e a f) C0) nx (0, 0) (zR (some (zI 0)) lay (tC x (zTk σ w T e a (if f = -1 then qscan qbl T e a else f)) (C0)) nx) := by
  refine z_met' (L := [zP (x + w)]) gX10_fail.1 rfl rfl (Nat.le_of_ble_eq_true rfl) rfl ?_
  have hA := hX.A
  have hx := hT.1
  have hw := hX.w1
  have hne : x + w ≠ -1 := by omega
  unfold zTk
  refine z_al0 eX10_fail_0 hne ?_
  first | refine z_tg0 (j := 0) lX10_9 eX10_fail_1 rfl hT hA (by decide) rfl rfl rfl ?_ | refine z_tg (j := 0) lX10_9 eX10_fail_1 rfl hT hA ⟨by decide, by decide⟩ rfl rfl rfl ?_
  first | rw [zWd_0] | rw [zWd_3] | skip
  refine z_iconst eX10_fail_4 ?_
  refine z_icmp_ne (tgt := 16) eX10_fail_5 rfl ⟨hf, by decide⟩ (fun h5 => ?_) (fun h5 => ?_)
  · refine z_iconst eX10_fail_16 ?_
    refine z_zreturn eX10_fail_17 rfl (by first | exact Or.inl rfl | exact Or.inr rfl | exact zbi_01 _ | assumption | omega) ?_
    first | (rw [if_pos (by omega)]; exact ⟨rfl, rfl, rfl, rfl⟩) | (rw [if_neg (by omega)]; exact ⟨rfl, rfl, rfl, rfl⟩)
  · refine z_al0 eX10_fail_8 hne ?_
    refine z_al0 eX10_fail_9 hne ?_
    first | refine z_tg0 (j := 3) lX10_37 eX10_fail_10 rfl hT hA (by decide) rfl rfl rfl ?_ | refine z_tg (j := 3) lX10_37 eX10_fail_10 rfl hT hA ⟨by decide, by decide⟩ rfl rfl rfl ?_
    first | rw [zWd_0] | rw [zWd_3] | skip
    first | refine z_tp0 (j := 0) lX10_9 eX10_fail_13 rfl hT hA (by decide) rfl rfl rfl ?_ | refine z_tp (j := 0) lX10_9 eX10_fail_13 rfl hT hA ⟨by decide, by decide⟩ rfl rfl rfl ?_
    rw [zWd_s0]
    refine z_iconst eX10_fail_16 ?_
    refine z_zreturn eX10_fail_17 rfl (by first | exact Or.inl rfl | exact Or.inr rfl | exact zbi_01 _ | assumption | omega) ?_
    first | (rw [if_pos (by omega)]; exact ⟨rfl, rfl, rfl, rfl⟩) | (rw [if_neg (by omega)]; exact ⟨rfl, rfl, rfl, rfl⟩)
theorem qKind_0 {T : Int → Int} {e b : Int} : qKind T e b = 0 ↔ ¬ b < e := by unfold qKind; (repeat' split) <;> omega
theorem qKind_1 {T : Int → Int} {e b : Int} : qKind T e b = 1 ↔ b < e ∧ qlet (T b) = true := by
  unfold qKind
  by_cases h : b < e
  · rw [if_pos h]
    by_cases h2 : qlet (T b) = true
    · rw [if_pos h2]; exact ⟨fun _ => ⟨h, h2⟩, fun _ => rfl⟩
    · rw [if_neg h2]
      exact ⟨fun z => by split at z <;> omega, fun z => absurd z.2 h2⟩
  · rw [if_neg h]; exact ⟨fun z => by omega, fun z => absurd z.1 h⟩
theorem qKind_2 {T : Int → Int} {e b : Int} : qKind T e b = 2 ↔ b < e ∧ qdig (T b) = true := by
  unfold qKind
  by_cases h : b < e
  · rw [if_pos h]
    by_cases h2 : qlet (T b) = true
    · rw [if_pos h2]
      exact ⟨fun z => by omega, fun z => by unfold qlet at h2; unfold qdig at z; rw [decide_eq_true_iff] at h2 z; omega⟩
    · rw [if_neg h2]
      by_cases h3 : qdig (T b) = true
      · rw [if_pos h3]; exact ⟨fun _ => ⟨h, h3⟩, fun _ => rfl⟩
      · rw [if_neg h3]; exact ⟨fun z => by omega, fun z => absurd z.2 h3⟩
  · rw [if_neg h]; exact ⟨fun z => by omega, fun z => absurd z.1 h⟩
theorem qKind_3 {T : Int → Int} {e b : Int} : qKind T e b = 3 ↔ b < e ∧ ¬ qlet (T b) = true ∧ ¬ qdig (T b) = true := by
  unfold qKind
  by_cases h : b < e
  · rw [if_pos h]
    by_cases h2 : qlet (T b) = true
    · rw [if_pos h2]; exact ⟨fun z => by omega, fun z => absurd h2 z.2.1⟩
    · rw [if_neg h2]
      by_cases h3 : qdig (T b) = true
      · rw [if_pos h3]; exact ⟨fun z => by omega, fun z => absurd h3 z.2.2⟩
      · rw [if_neg h3]; exact ⟨fun _ => ⟨h, h2, h3⟩, fun _ => rfl⟩
  · rw [if_neg h]; exact ⟨fun z => by omega, fun z => absurd z.1 h⟩
theorem qKind_bd (T : Int → Int) (e b : Int) : 0 ≤ qKind T e b ∧ qKind T e b ≤ 3 := by unfold qKind; (repeat' split) <;> omega
theorem c_X10_atEnd {G : zG} {lay : zLay} {σ C0 : zMem} {nx x w e a f : Int} {T : Int → Int} (hT : TopL lay x) (hX : TxC x σ w T e) (ha : 0 ≤ a ∧ a ≤ e)  : zMM G 1 KX10_atEnd [zP (x + w)] lay (tC x (zTk σ w T e a f) C0) nx (0, 0) (zR (some (zI (zbi (¬ qscan qbl T e a < e)))) lay (tC x (zTk σ w T e a f) (C0)) nx) := by
  refine z_met' (L := [zP (x + w)]) gX10_atEnd.1 rfl rfl (Nat.le_of_ble_eq_true rfl) rfl ?_
  have hA := hX.A
  have hx := hT.1
  have hw := hX.w1
  have hne : x + w ≠ -1 := by omega
  have hk := qKind_bd T e (qscan qbl T e a)
  have hk0 := qKind_0 (T := T) (e := e) (b := qscan qbl T e a)
  unfold zTk
  refine z_al0 eX10_atEnd_0 hne ?_
  first | refine z_tg0 (j := 5) lX10_40 eX10_atEnd_1 rfl hT hA (by decide) rfl rfl rfl ?_ | refine z_tg (j := 5) lX10_40 eX10_atEnd_1 rfl hT hA ⟨by decide, by decide⟩ rfl rfl rfl ?_
  first | rw [zWd_5] | skip
  refine z_if_ne (tgt := 11) eX10_atEnd_4 rfl ⟨by omega, by omega⟩ (fun h4 => ?_) (fun h4 => ?_)
  · refine z_iconst eX10_atEnd_11 ?_
    refine z_zreturn eX10_atEnd_12 rfl (by first | exact Or.inl rfl | exact Or.inr rfl | exact zbi_01 _ | assumption | omega) ?_
    first | (rw [zbi_t (hk0.mp (by omega))]; exact ⟨rfl, rfl, rfl, rfl⟩) | (rw [zbi_f (fun z => absurd (hk0.mpr z) (by omega))]; exact ⟨rfl, rfl, rfl, rfl⟩) | fail
  · refine z_iconst eX10_atEnd_7 ?_
    refine z_goto eX10_atEnd_8 (tgt := 12) rfl ?_
    refine z_zreturn eX10_atEnd_12 rfl (by first | exact Or.inl rfl | exact Or.inr rfl | exact zbi_01 _ | assumption | omega) ?_
    first | (rw [zbi_t (hk0.mp (by omega))]; exact ⟨rfl, rfl, rfl, rfl⟩) | (rw [zbi_f (fun z => absurd (hk0.mpr z) (by omega))]; exact ⟨rfl, rfl, rfl, rfl⟩) | fail
theorem c_X10_atDigits {G : zG} {lay : zLay} {σ C0 : zMem} {nx x w e a f : Int} {T : Int → Int} (hT : TopL lay x) (hX : TxC x σ w T e) (ha : 0 ≤ a ∧ a ≤ e)  : zMM G 1 KX10_atDigits [zP (x + w)] lay (tC x (zTk σ w T e a f) C0) nx (0, 0) (zR (some (zI (zbi (qscan qbl T e a < e ∧ qdig (T (qscan qbl T e a)) = true)))) lay (tC x (zTk σ w T e a f) (C0)) nx) := by
  refine z_met' (L := [zP (x + w)]) gX10_atDigits.1 rfl rfl (Nat.le_of_ble_eq_true rfl) rfl ?_
  have hA := hX.A
  have hx := hT.1
  have hw := hX.w1
  have hne : x + w ≠ -1 := by omega
  have hk := qKind_bd T e (qscan qbl T e a)
  have hk0 := qKind_2 (T := T) (e := e) (b := qscan qbl T e a)
  unfold zTk
  refine z_al0 eX10_atDigits_0 hne ?_
  first | refine z_tg0 (j := 5) lX10_40 eX10_atDigits_1 rfl hT hA (by decide) rfl rfl rfl ?_ | refine z_tg (j := 5) lX10_40 eX10_atDigits_1 rfl hT hA ⟨by decide, by decide⟩ rfl rfl rfl ?_
  first | rw [zWd_5] | skip
  refine z_iconst eX10_atDigits_4 ?_
  refine z_icmp_ne (tgt := 12) eX10_atDigits_5 rfl ⟨⟨by omega, by omega⟩, ⟨by omega, by omega⟩⟩ (fun h5 => ?_) (fun h5 => ?_)
  · refine z_iconst eX10_atDigits_12 ?_
    refine z_zreturn eX10_atDigits_13 rfl (by first | exact Or.inl rfl | exact Or.inr rfl | exact zbi_01 _ | assumption | omega) ?_
    first | (rw [zbi_t (hk0.mp (by omega))]; exact ⟨rfl, rfl, rfl, rfl⟩) | (rw [zbi_f (fun z => absurd (hk0.mpr z) (by omega))]; exact ⟨rfl, rfl, rfl, rfl⟩) | fail
  · refine z_iconst eX10_atDigits_8 ?_
    refine z_goto eX10_atDigits_9 (tgt := 13) rfl ?_
    refine z_zreturn eX10_atDigits_13 rfl (by first | exact Or.inl rfl | exact Or.inr rfl | exact zbi_01 _ | assumption | omega) ?_
    first | (rw [zbi_t (hk0.mp (by omega))]; exact ⟨rfl, rfl, rfl, rfl⟩) | (rw [zbi_f (fun z => absurd (hk0.mpr z) (by omega))]; exact ⟨rfl, rfl, rfl, rfl⟩) | fail
theorem c_X10_atSign {G : zG} {lay : zLay} {σ C0 : zMem} {nx x w e a f : Int} {T : Int → Int} (hT : TopL lay x) (hX : TxC x σ w T e) (ha : 0 ≤ a ∧ a ≤ e) {c : Int} (hc : 0 ≤ c ∧ c ≤ 255) (hc2 : ¬ qlet c = true ∧ ¬ qdig c = true) : zMM G 1 KX10_atSign [zP (x + w), zI c] lay (tC x (zTk σ w T e a f) C0) nx (0, 0) (zR (some (zI (zbi (qscan qbl T e a < e ∧ T (qscan qbl T e a) = c)))) lay (tC x (zTk σ w T e a f) (C0)) nx) := by
  refine z_met' (L := [zP (x + w), zI c]) gX10_atSign.1 rfl rfl (Nat.le_of_ble_eq_true rfl) rfl ?_
  have hA := hX.A
  have hx := hT.1
  have hw := hX.w1
  have hne : x + w ≠ -1 := by omega
  have he := hX.e0
  have hnw := hX.ne
  have hk := qKind_bd T e (qscan qbl T e a)
  have hk0 := qKind_3 (T := T) (e := e) (b := qscan qbl T e a)
  have hbd := qskip_bd (T := T) ha.2
  unfold zTk
  generalize qscan qbl T e a = b at hk hk0 hbd ⊢
  have hb := hX.bt b (by omega)
  have hno : ¬ qKind T e b = 3 → ¬ (b < e ∧ T b = c) := fun z q => z (hk0.mpr ⟨q.1, by rw [q.2]; exact hc2⟩)
  refine z_al0 eX10_atSign_0 hne ?_
  first | refine z_tg0 (j := 5) lX10_40 eX10_atSign_1 rfl hT hA (by decide) rfl rfl rfl ?_ | refine z_tg (j := 5) lX10_40 eX10_atSign_1 rfl hT hA ⟨by decide, by decide⟩ rfl rfl rfl ?_
  first | rw [zWd_1, hX.pt] | rw [zWd_2, hX.ln] | rw [zWd_3] | rw [zWd_5] | skip
  refine z_iconst eX10_atSign_4 ?_
  refine z_icmp_ne (tgt := 43) eX10_atSign_5 rfl ⟨⟨by omega, by omega⟩, ⟨by omega, by omega⟩⟩ (fun h5 => ?_) (fun h5 => ?_)
  · refine z_iconst eX10_atSign_43 ?_
    refine z_zreturn eX10_atSign_44 rfl (by first | exact Or.inl rfl | exact Or.inr rfl | exact zbi_01 _ | assumption | omega) ?_
    first | (rw [zbi_t ⟨by omega, by omega⟩]; exact ⟨rfl, rfl, rfl, rfl⟩) | (rw [zbi_f (fun z => absurd z.2 (by omega))]; exact ⟨rfl, rfl, rfl, rfl⟩) | (rw [zbi_f (hno (by omega))]; exact ⟨rfl, rfl, rfl, rfl⟩) | fail
  · refine z_al0 eX10_atSign_8 hne ?_
    first | refine z_tg0 (j := 3) lX10_37 eX10_atSign_9 rfl hT hA (by decide) rfl rfl rfl ?_ | refine z_tg (j := 3) lX10_37 eX10_atSign_9 rfl hT hA ⟨by decide, by decide⟩ rfl rfl rfl ?_
    first | rw [zWd_1, hX.pt] | rw [zWd_2, hX.ln] | rw [zWd_3] | rw [zWd_5] | skip
    refine z_if_lt (tgt := 43) eX10_atSign_12 rfl ⟨by omega, by omega⟩ (fun h12 => (by exfalso; omega)) (fun h12 => ?_)
    refine z_al0 eX10_atSign_15 hne ?_
    first | refine z_tg0 (j := 3) lX10_37 eX10_atSign_16 rfl hT hA (by decide) rfl rfl rfl ?_ | refine z_tg (j := 3) lX10_37 eX10_atSign_16 rfl hT hA ⟨by decide, by decide⟩ rfl rfl rfl ?_
    first | rw [zWd_1, hX.pt] | rw [zWd_2, hX.ln] | rw [zWd_3] | rw [zWd_5] | skip
    refine z_al0 eX10_atSign_19 hne ?_
    first | refine z_tg0 (j := 2) lX10_28 eX10_atSign_20 rfl hT hA (by decide) rfl rfl rfl ?_ | refine z_tg (j := 2) lX10_28 eX10_atSign_20 rfl hT hA ⟨by decide, by decide⟩ rfl rfl rfl ?_
    first | rw [zWd_1, hX.pt] | rw [zWd_2, hX.ln] | rw [zWd_3] | rw [zWd_5] | skip
    refine z_icmp_ge (tgt := 43) eX10_atSign_23 rfl ⟨⟨by omega, by omega⟩, ⟨by omega, by omega⟩⟩ (fun h23 => absurd (hk0.mp (by omega)).1 (by omega)) (fun h23 => ?_)
    refine z_al0 eX10_atSign_26 hne ?_
    first | refine z_td0 (j := 1) lX10_15 eX10_atSign_27 rfl hT hA (by decide) rfl rfl rfl ?_ | refine z_td (j := 1) lX10_15 eX10_atSign_27 rfl hT hA ⟨by decide, by decide⟩ rfl rfl rfl ?_
    first | rw [zWd_1, hX.pt] | rw [zWd_2, hX.ln] | rw [zWd_3] | rw [zWd_5] | skip
    refine z_al0 eX10_atSign_30 hne ?_
    first | refine z_tg0 (j := 3) lX10_37 eX10_atSign_31 rfl hT hA (by decide) rfl rfl rfl ?_ | refine z_tg (j := 3) lX10_37 eX10_atSign_31 rfl hT hA ⟨by decide, by decide⟩ rfl rfl rfl ?_
    first | rw [zWd_1, hX.pt] | rw [zWd_2, hX.ln] | rw [zWd_3] | rw [zWd_5] | skip
    have hb8 := (hk0.mp (by omega)).1
    have hb9 := hb (by omega)
    refine z_tl eX10_atSign_34 hT TpAt ⟨by decide, by decide⟩ rfl rfl ⟨by omega, by omega⟩ ?_
    rw [zWd_o hnw, hX.tx b (by omega) (by omega)]
    first | rw [zWd_1, hX.pt] | rw [zWd_2, hX.ln] | rw [zWd_3] | rw [zWd_5] | skip
    refine z_il1 eX10_atSign_35 ?_
    refine z_icmp_ne (tgt := 43) eX10_atSign_36 rfl ⟨⟨by omega, by omega⟩, ⟨by omega, by omega⟩⟩ (fun h36 => ?_) (fun h36 => ?_)
    · refine z_iconst eX10_atSign_43 ?_
      refine z_zreturn eX10_atSign_44 rfl (by first | exact Or.inl rfl | exact Or.inr rfl | exact zbi_01 _ | assumption | omega) ?_
      first | (rw [zbi_t ⟨by omega, by omega⟩]; exact ⟨rfl, rfl, rfl, rfl⟩) | (rw [zbi_f (fun z => absurd z.2 (by omega))]; exact ⟨rfl, rfl, rfl, rfl⟩) | (rw [zbi_f (hno (by omega))]; exact ⟨rfl, rfl, rfl, rfl⟩) | fail
    · refine z_iconst eX10_atSign_39 ?_
      refine z_goto eX10_atSign_40 (tgt := 44) rfl ?_
      refine z_zreturn eX10_atSign_44 rfl (by first | exact Or.inl rfl | exact Or.inr rfl | exact zbi_01 _ | assumption | omega) ?_
      first | (rw [zbi_t ⟨by omega, by omega⟩]; exact ⟨rfl, rfl, rfl, rfl⟩) | (rw [zbi_f (fun z => absurd z.2 (by omega))]; exact ⟨rfl, rfl, rfl, rfl⟩) | (rw [zbi_f (hno (by omega))]; exact ⟨rfl, rfl, rfl, rfl⟩) | fail
