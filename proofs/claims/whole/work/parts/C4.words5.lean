/-! Words, on: figures. -/
theorem zTk_0 {σ : zMem} {w : Int} {T : Int → Int} {e a f : Int} : zTk σ w T e a f w 0 = f := zWd_0
theorem zTk_1 {σ : zMem} {w : Int} {T : Int → Int} {e a f : Int} : zTk σ w T e a f w 1 = σ w 1 := zWd_1
theorem zTk_2 {σ : zMem} {w : Int} {T : Int → Int} {e a f : Int} : zTk σ w T e a f w 2 = σ w 2 := zWd_2
theorem zTk_3 {σ : zMem} {w : Int} {T : Int → Int} {e a f : Int} : zTk σ w T e a f w 3 = qscan qbl T e a := zWd_3
theorem zTk_4 {σ : zMem} {w : Int} {T : Int → Int} {e a f : Int} : zTk σ w T e a f w 4 = qStop T e (qscan qbl T e a) := zWd_4
theorem zTk_5 {σ : zMem} {w : Int} {T : Int → Int} {e a f : Int} : zTk σ w T e a f w 5 = qKind T e (qscan qbl T e a) := zWd_5
theorem zTk_o {σ : zMem} {w : Int} {T : Int → Int} {e a f o : Int} (h : o ≠ w) : zTk σ w T e a f o = σ o := zWd_o h
theorem zTk_so {σ : zMem} {w : Int} {T : Int → Int} {e a f o j v : Int} (h : o ≠ w) : zset (zTk σ w T e a f) o j v = zTk (zset σ o j v) w T e a f := zWd_so h
theorem qscan_end {P : Int → Bool} {T : Int → Int} {e k : Int} (h : qscan P T e k < e) : ¬ P (T (qscan P T e k)) = true := by
  intro z
  have h1 := qscan_idem (P := P) (T := T) (e := e) _ k rfl
  rw [qscan_t h z] at h1
  have h2 := qscan_bd (P := P) (T := T) (e := e) (k := qscan P T e k + 1)
  omega
theorem qStop_dig {T : Int → Int} {e b : Int} (h : b < e) (h2 : qdig (T b) = true) : qStop T e b = qscan qdig T e b := by
  unfold qStop
  rw [if_pos h, if_neg (by unfold qdig at h2; rw [decide_eq_true_iff] at h2; exact qlet_f (by omega)), if_pos h2, ← qscan_t h h2]
theorem qfgN_sc {T : Int → Int} {e : Int} : ∀ (n : Nat) (a v : Int), (qscan qdig T e a - a ≤ n → (qfgN T e n a v).2 = qscan qdig T e a) ∧ ((n : Int) < qscan qdig T e a - a → (qfgN T e n a v).2 = a + n) := by
  intro n
  induction n with
  | zero =>
    intro a v
    have h := qscan_bd (P := qdig) (T := T) (e := e) (k := a)
    exact ⟨fun z => by show a = _; omega, fun _ => by show a = a + ((0 : Nat) : Int); omega⟩
  | succ n ih =>
    intro a v
    by_cases h : a < e ∧ 48 ≤ T a ∧ T a ≤ 57
    · rw [qfgN_yes h, qscan_t h.1 (qdig_t h.2.1 h.2.2)]
      have := ih (a + 1) (10 * v + T a - 48)
      exact ⟨fun z => this.1 (by omega), fun z => by rw [this.2 (by omega)]; omega⟩
    · rw [qfgN_no h]
      by_cases h1 : a < e
      · rw [qscan_f h1 (qdig_f (by omega))]
        exact ⟨fun _ => rfl, fun z => by omega⟩
      · rw [qscan_ge (by omega)]
        exact ⟨fun _ => rfl, fun z => by omega⟩
theorem c_X10_takeNumber {G : zG} {lay : zLay} {σ C0 : zMem} {nx x w e a f : Int} {T : Int → Int} (hT : TopL lay x) (hX : TxC x σ w T e) (ha : 0 ≤ a ∧ a ≤ e) {lo hi : Int} (hf : f = -1) (hlo : zin lo) (hhi : zin hi) : zMM G 2 KX10_takeNumber [zP (x + w), zI lo, zI hi] lay (tC x (zTk σ w T e a f) C0) nx (0, 0) (zR (some (zI (if (qFig T e lo hi a f).2.2 = -1 then (qFig T e lo hi a f).1 else -1))) lay (tC x (zTk σ w T e (if (qFig T e lo hi a f).2.2 = -1 then (qFig T e lo hi a f).2.1 else a) (qFig T e lo hi a f).2.2) (C0)) nx) := by
  refine z_met' (L := [zP (x + w), zI lo, zI hi, zU, zU]) gX10_takeNumber.1 rfl rfl (Nat.le_of_ble_eq_true rfl) rfl ?_
  have hA := hX.A
  have hx := hT.1
  have hw := hX.w1
  have hne : x + w ≠ -1 := by omega
  have he := hX.e0
  have hnw := hX.ne
  subst hf
  unfold zin at hlo hhi
  obtain ⟨b, hb⟩ : ∃ b, qscan qbl T e a = b := ⟨_, rfl⟩
  have hbd := qskip_bd (T := T) ha.2
  have hk := qKind_bd T e (qscan qbl T e a)
  have hk2 := qKind_2 (T := T) (e := e) (b := qscan qbl T e a)
  rw [hb] at hbd hk hk2
  have hsc := qfgN_sc (T := T) (e := e) 4 b 0
  have hsb := qscan_bd (P := qdig) (T := T) (e := e) (k := b)
  obtain ⟨F, hF⟩ : ∃ F, qFig T e lo hi a (-1) = F := ⟨_, rfl⟩
  have hF' := hF
  unfold qFig at hF'
  rw [if_pos rfl, hb] at hF'
  rw [hF]
  have hbad : F.2.2 = b → zR (some (zI (if F.2.2 = -1 then F.1 else -1))) lay (tC x (zTk σ w T e (if F.2.2 = -1 then F.2.1 else a) F.2.2) C0) nx (.inl (some (zI (-1)))) lay (tC x (zTk σ w T e a b) C0) nx := by
    intro z
    rw [z, if_neg (by omega), if_neg (by omega)]
    exact ⟨rfl, rfl, rfl, rfl⟩
  obtain ⟨Q, hQ⟩ : ∃ Q, zR (some (zI (if F.2.2 = -1 then F.1 else -1))) lay (tC x (zTk σ w T e (if F.2.2 = -1 then F.2.1 else a) F.2.2) C0) nx = Q := ⟨_, rfl⟩
  rw [hQ] at hbad ⊢
  have w76 : F.2.2 = b → ∀ y3 y4 : zAV, zW G KX10_takeNumber 2 Q 76 [zP (x + w), zI lo, zI hi, y3, y4] [] lay (tC x (zTk σ w T e a (-1)) C0) nx (0, 0) := by
    intro z y3 y4
    refine z_al0 eX10_takeNumber_76 hne ?_
    refine z_V0 eX10_takeNumber_77 vX10_59 rfl rfl (Nat.le_of_ble_eq_true rfl) (Nat.le_of_ble_eq_true rfl) ((hA).L0 hT (by decide)) (c_X10_fail hT hX ha (by decide)) ?_
    rw [if_pos rfl, hb]
    refine z_pop eX10_takeNumber_80 (Nat.ne_of_beq_eq_false rfl) ?_
    refine z_iconst eX10_takeNumber_81 ?_
    refine z_ireturn eX10_takeNumber_82 rfl ?_
    exact hbad z
  by_cases hk9 : qKind T e b = 2 ∧ qStop T e b - b ≤ 3
  · have hd9 := hk2.mp hk9.1
    have hst := qStop_dig hd9.1 hd9.2
    obtain ⟨s, hs⟩ : ∃ s, qscan qdig T e b = s := ⟨_, rfl⟩
    have hlt := hsb
    have hbs : b + 1 ≤ s := by
      have := qscan_bd (P := qdig) (T := T) (e := e) (k := b + 1)
      rw [← qscan_t hd9.1 hd9.2, hs] at this
      omega
    have hall := qscan_all (P := qdig) (T := T) (e := e) _ b rfl
    have hend := qscan_end (P := qdig) (T := T) (e := e) (k := b)
    rw [hs] at hsc hsb hst hall hend
    have w29 : ∀ (m : Nat) (i v : Int), (s - i).toNat = m → b ≤ i → i ≤ s → qfgN T e (4 - (i - b)).toNat i v = qfgN T e 4 b 0 → zW G KX10_takeNumber 2 Q 29 [zP (x + w), zI lo, zI hi, zI v, zI i] [] lay (tC x (zTk σ w T e a (-1)) C0) nx (0, 0) := by
      intro m
      induction m with
      | zero =>
        intro i v hm i0 i1 hq
        have his : i = s := by omega
        have hR : qfgN T e 4 b 0 = (v, s) := by
          rw [← hq, his, qfgN_no (fun z => hend z.1 (qdig_t z.2.1 z.2.2))]
        have hvb := qfgN_bd (T := T) (e := e) 4 b 0 (by decide) (by omega) (by decide) (by decide) (fun k k0 k1 => by have := hX.bt k (by omega) (by omega); omega)
        rw [hR] at hF' hvb
        have hF1 : F.1 = v := by rw [← hF']
        have hF2 : F.2.1 = s := by rw [← hF']
        have hF3 : F.2.2 = if s = b ∨ 3 < s - b ∨ v < lo ∨ hi < v then b else -1 := by rw [← hF']
        dsimp only at hvb
        refine z_il4 eX10_takeNumber_29 ?_
        refine z_al0 eX10_takeNumber_31 hne ?_
        first | refine z_tg0 (j := 4) lX10_31 eX10_takeNumber_32 rfl hT hA (by decide) rfl rfl rfl ?_ | refine z_tg (j := 4) lX10_31 eX10_takeNumber_32 rfl hT hA ⟨by decide, by decide⟩ rfl rfl rfl ?_
        first | rw [zTk_4, hb, hst] | skip
        refine z_icmp_ge (tgt := 60) eX10_takeNumber_35 rfl ⟨⟨by omega, by omega⟩, ⟨by omega, by omega⟩⟩ (fun h35 => ?_) (fun h35 => (by exfalso; omega))
        refine z_il3 eX10_takeNumber_60 ?_
        refine z_il1 eX10_takeNumber_61 ?_
        refine z_icmp_lt (tgt := 76) eX10_takeNumber_62 rfl ⟨⟨by omega, by omega⟩, ⟨by omega, by omega⟩⟩ (fun h62 => ?_) (fun h62 => ?_)
        · exact w76 (by rw [hF3, if_pos (by omega)]) _ _
        · refine z_il3 eX10_takeNumber_65 ?_
          refine z_il2 eX10_takeNumber_66 ?_
          refine z_icmp_gt (tgt := 76) eX10_takeNumber_67 rfl ⟨⟨by omega, by omega⟩, ⟨by omega, by omega⟩⟩ (fun h67 => ?_) (fun h67 => ?_)
          · exact w76 (by rw [hF3, if_pos (by omega)]) _ _
          · rw [show zTk σ w T e a (-1) = zWd σ w (-1) b s (qKind T e b) by unfold zTk; rw [hb, hst]]
            refine z_al0 eX10_takeNumber_70 hne ?_
            refine z_V0v eX10_takeNumber_71 vX10_34 rfl rfl (Nat.le_of_ble_eq_true rfl) (Nat.le_of_ble_eq_true rfl) ((hA).L0 hT (by decide)) (c_X10_advance hT hX (s := s) ⟨by omega, by omega⟩) ?_
            first | rw [zTk_4, hb, hst] | skip
            refine z_il3 eX10_takeNumber_74 ?_
            refine z_ireturn eX10_takeNumber_75 rfl ?_
            have hz3 : F.2.2 = -1 := by rw [hF3, if_neg (by omega)]
            rw [← hQ, hz3, if_pos rfl, if_pos rfl, hF1, hF2]; exact ⟨rfl, rfl, rfl, rfl⟩
      | succ m ih =>
        intro i v hm i0 i1 hq
        have hti := hall i i0 (by omega)
        unfold qdig at hti
        rw [decide_eq_true_iff] at hti
        rw [show (4 - (i - b)).toNat = (4 - (i + 1 - b)).toNat + 1 by omega, qfgN_yes ⟨by omega, hti⟩] at hq
        refine z_il4 eX10_takeNumber_29 ?_
        refine z_al0 eX10_takeNumber_31 hne ?_
        first | refine z_tg0 (j := 4) lX10_31 eX10_takeNumber_32 rfl hT hA (by decide) rfl rfl rfl ?_ | refine z_tg (j := 4) lX10_31 eX10_takeNumber_32 rfl hT hA ⟨by decide, by decide⟩ rfl rfl rfl ?_
        first | rw [zTk_4, hb, hst] | rw [zTk_1, hX.pt] | skip
        refine z_icmp_ge (tgt := 60) eX10_takeNumber_35 rfl ⟨⟨by omega, by omega⟩, ⟨by omega, by omega⟩⟩ (fun h35 => (by exfalso; omega)) (fun h35 => ?_)
        refine z_bipush eX10_takeNumber_38 (by decide) ?_
        refine z_il3 eX10_takeNumber_40 ?_
        refine z_imul eX10_takeNumber_41 ?_
        refine z_al0 eX10_takeNumber_42 hne ?_
        first | refine z_td0 (j := 1) lX10_15 eX10_takeNumber_43 rfl hT hA (by decide) rfl rfl rfl ?_ | refine z_td (j := 1) lX10_15 eX10_takeNumber_43 rfl hT hA ⟨by decide, by decide⟩ rfl rfl rfl ?_
        first | rw [zTk_4, hb, hst] | rw [zTk_1, hX.pt] | skip
        refine z_il4 eX10_takeNumber_46 ?_
        refine z_tl eX10_takeNumber_48 hT TpAt ⟨by decide, by decide⟩ rfl rfl ⟨by omega, by omega⟩ ?_
        rw [zTk_o hnw, hX.tx i (by omega) (by omega)]
        first | rw [zTk_4, hb, hst] | rw [zTk_1, hX.pt] | skip
        refine z_iadd eX10_takeNumber_49 ?_
        refine z_bipush eX10_takeNumber_50 (by decide) ?_
        refine z_isub eX10_takeNumber_52 ?_
        refine z_is3 eX10_takeNumber_53 (Nat.ne_of_beq_eq_false rfl) ?_
        refine z_ii4 eX10_takeNumber_54 (Nat.ne_of_beq_eq_false rfl) ?_
        refine z_goto eX10_takeNumber_57 (tgt := 29) rfl ?_
        exact ih (i + 1) _ (by omega) (by omega) (by omega) hq
    refine z_iconst eX10_takeNumber_0 ?_
    refine z_is3 eX10_takeNumber_1 (Nat.ne_of_beq_eq_false rfl) ?_
    refine z_al0 eX10_takeNumber_2 hne ?_
    first | refine z_tg0 (j := 5) lX10_40 eX10_takeNumber_3 rfl hT hA (by decide) rfl rfl rfl ?_ | refine z_tg (j := 5) lX10_40 eX10_takeNumber_3 rfl hT hA ⟨by decide, by decide⟩ rfl rfl rfl ?_
    first | rw [zTk_3, hb] | rw [zTk_4, hb, hst] | rw [zTk_5, hb] | skip
    refine z_iconst eX10_takeNumber_6 ?_
    refine z_icmp_ne (tgt := 76) eX10_takeNumber_7 rfl ⟨⟨by omega, by omega⟩, ⟨by omega, by omega⟩⟩ (fun h7 => (by exfalso; omega)) (fun h7 => ?_)
    refine z_al0 eX10_takeNumber_10 hne ?_
    first | refine z_tg0 (j := 4) lX10_31 eX10_takeNumber_11 rfl hT hA (by decide) rfl rfl rfl ?_ | refine z_tg (j := 4) lX10_31 eX10_takeNumber_11 rfl hT hA ⟨by decide, by decide⟩ rfl rfl rfl ?_
    first | rw [zTk_3, hb] | rw [zTk_4, hb, hst] | rw [zTk_5, hb] | skip
    refine z_al0 eX10_takeNumber_14 hne ?_
    first | refine z_tg0 (j := 3) lX10_37 eX10_takeNumber_15 rfl hT hA (by decide) rfl rfl rfl ?_ | refine z_tg (j := 3) lX10_37 eX10_takeNumber_15 rfl hT hA ⟨by decide, by decide⟩ rfl rfl rfl ?_
    first | rw [zTk_3, hb] | rw [zTk_4, hb, hst] | rw [zTk_5, hb] | skip
    refine z_isub eX10_takeNumber_18 ?_
    refine z_iconst eX10_takeNumber_19 ?_
    refine z_icmp_gt (tgt := 76) eX10_takeNumber_20 rfl ⟨⟨by omega, by omega⟩, ⟨by omega, by omega⟩⟩ (fun h20 => (by exfalso; omega)) (fun h20 => ?_)
    refine z_al0 eX10_takeNumber_23 hne ?_
    first | refine z_tg0 (j := 3) lX10_37 eX10_takeNumber_24 rfl hT hA (by decide) rfl rfl rfl ?_ | refine z_tg (j := 3) lX10_37 eX10_takeNumber_24 rfl hT hA ⟨by decide, by decide⟩ rfl rfl rfl ?_
    first | rw [zTk_3, hb] | rw [zTk_4, hb, hst] | rw [zTk_5, hb] | skip
    refine z_is4 eX10_takeNumber_27 (Nat.ne_of_beq_eq_false rfl) ?_
    exact w29 _ b 0 rfl (by omega) (by omega) (by rw [show (4 - (b - b)).toNat = 4 by omega])
  · have hF3 : F.2.2 = if (qfgN T e 4 b 0).2 = b ∨ 3 < (qfgN T e 4 b 0).2 - b ∨ (qfgN T e 4 b 0).1 < lo ∨ hi < (qfgN T e 4 b 0).1 then b else -1 := by rw [← hF']
    have hFb : F.2.2 = b := by
      rw [hF3, if_pos]
      by_cases hk8 : qKind T e b = 2
      · have hd9 := hk2.mp hk8
        have hst := qStop_dig hd9.1 hd9.2
        by_cases h4 : qscan qdig T e b - b ≤ 4
        · have := hsc.1 (by omega); omega
        · have := hsc.2 (by omega); omega
      · have hno : qscan qdig T e b = b := by
          by_cases c : b < e
          · exact qscan_f c (fun z => hk8 (hk2.mpr ⟨c, z⟩))
          · exact qscan_ge (by omega)
        have := hsc.1 (by omega)
        omega
    have hss : b ≤ qStop T e b ∧ qStop T e b ≤ 401 := by
      unfold qStop
      have h1 := qscan_bd (P := qlet) (T := T) (e := e) (k := b + 1)
      have h2 := qscan_bd (P := qdig) (T := T) (e := e) (k := b + 1)
      (repeat' split) <;> omega
    refine z_iconst eX10_takeNumber_0 ?_
    refine z_is3 eX10_takeNumber_1 (Nat.ne_of_beq_eq_false rfl) ?_
    refine z_al0 eX10_takeNumber_2 hne ?_
    first | refine z_tg0 (j := 5) lX10_40 eX10_takeNumber_3 rfl hT hA (by decide) rfl rfl rfl ?_ | refine z_tg (j := 5) lX10_40 eX10_takeNumber_3 rfl hT hA ⟨by decide, by decide⟩ rfl rfl rfl ?_
    first | rw [zTk_3, hb] | rw [zTk_4, hb] | rw [zTk_5, hb] | skip
    refine z_iconst eX10_takeNumber_6 ?_
    refine z_icmp_ne (tgt := 76) eX10_takeNumber_7 rfl ⟨⟨by omega, by omega⟩, ⟨by omega, by omega⟩⟩ (fun h7 => ?_) (fun h7 => ?_)
    · exact w76 hFb _ _
    · refine z_al0 eX10_takeNumber_10 hne ?_
      first | refine z_tg0 (j := 4) lX10_31 eX10_takeNumber_11 rfl hT hA (by decide) rfl rfl rfl ?_ | refine z_tg (j := 4) lX10_31 eX10_takeNumber_11 rfl hT hA ⟨by decide, by decide⟩ rfl rfl rfl ?_
      first | rw [zTk_3, hb] | rw [zTk_4, hb] | rw [zTk_5, hb] | skip
      refine z_al0 eX10_takeNumber_14 hne ?_
      first | refine z_tg0 (j := 3) lX10_37 eX10_takeNumber_15 rfl hT hA (by decide) rfl rfl rfl ?_ | refine z_tg (j := 3) lX10_37 eX10_takeNumber_15 rfl hT hA ⟨by decide, by decide⟩ rfl rfl rfl ?_
      first | rw [zTk_3, hb] | rw [zTk_4, hb] | rw [zTk_5, hb] | skip
      refine z_isub eX10_takeNumber_18 ?_
      refine z_iconst eX10_takeNumber_19 ?_
      refine z_icmp_gt (tgt := 76) eX10_takeNumber_20 rfl ⟨⟨by omega, by omega⟩, ⟨by omega, by omega⟩⟩ (fun h20 => ?_) (fun h20 => (by exfalso; omega))
      exact w76 hFb _ _
