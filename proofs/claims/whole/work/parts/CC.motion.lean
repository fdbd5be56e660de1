/-! A motion, added; its line. -/
theorem c_X6_add {G : zG} {lay : zLay} {σ C0 : zMem} {nx x b : Int} (hT : TopL lay x) {mv tk wo fr : Int} {M : Int → Int} (hA : MoAt b) (hW : MoR σ b M) (h4 : 0 ≤ M 4 ∧ M 4 < 8) : zMM G 1 KX6_add [zP (x + b), zI mv, zI tk, zI wo, zI fr] lay (tC x σ C0) nx (0, 0) (zZ' none (fun q => zOut b 7 σ q ∧ MoR q b (qMot M mv tk wo fr)) lay C0 nx x) := by
  refine z_met' (L := [zP (x + b), zI mv, zI tk, zI wo, zI fr]) gX6_add.1 rfl rfl (Nat.le_of_ble_eq_true rfl) rfl ?_
  have hb0 := hA.b0 (by decide)
  have hx := hT.1
  have hne : x + b ≠ -1 := by omega
  have n4 := hW.1
  have e4 : qMot M mv tk wo fr 4 = M 4 + 1 := by unfold qMot; rw [zput_eq]
  have e : ∀ j, j ≠ 4 → ¬ (74 + 5 * M 4 ≤ j ∧ j < 79 + 5 * M 4) → qMot M mv tk wo fr j = M j := by
    intro j j1 j2
    unfold qMot
    rw [zput_ne j1, zput_ne (by omega), zput_ne (by omega), zput_ne (by omega), zput_ne (by omega), zput_ne (by omega)]
  have f0 : qMot M mv tk wo fr (74 + 5 * M 4 + 0) = mv := by
    unfold qMot
    rw [zput_ne (by omega), zput_ne (by omega), zput_ne (by omega), zput_ne (by omega), zput_ne (by omega), zput_eq]
  have f1 : qMot M mv tk wo fr (74 + 5 * M 4 + 1) = tk := by
    unfold qMot
    rw [zput_ne (by omega), zput_ne (by omega), zput_ne (by omega), zput_ne (by omega), zput_eq]
  have f2 : qMot M mv tk wo fr (74 + 5 * M 4 + 2) = wo := by
    unfold qMot
    rw [zput_ne (by omega), zput_ne (by omega), zput_ne (by omega), zput_eq]
  have f3 : qMot M mv tk wo fr (74 + 5 * M 4 + 3) = fr := by
    unfold qMot
    rw [zput_ne (by omega), zput_ne (by omega), zput_eq]
  have f4 : qMot M mv tk wo fr (74 + 5 * M 4 + 4) = 0 := by
    unfold qMot
    rw [zput_ne (by omega), zput_eq]
  have o : ∀ i j v S, i ≠ b → zset S i j v b 0 = S b 0 := fun i j v S hi => by rw [zset_o (by omega)]
  refine z_al0 eX6_add_0 hne ?_
  first | refine z_tg0 (j := 0) lX6_36 eX6_add_1 rfl hT hA (by decide) rfl rfl rfl ?_ | refine z_tg (j := 0) lX6_36 eX6_add_1 rfl hT hA ⟨by decide, by decide⟩ rfl rfl rfl ?_
  first | rw [n4] | skip
  refine z_if_lt (tgt := 16) eX6_add_4 rfl ⟨by omega, by omega⟩ (fun h4 => (by exfalso; omega)) (fun h4 => ?_)
  refine z_al0 eX6_add_7 hne ?_
  first | refine z_tg0 (j := 0) lX6_36 eX6_add_8 rfl hT hA (by decide) rfl rfl rfl ?_ | refine z_tg (j := 0) lX6_36 eX6_add_8 rfl hT hA ⟨by decide, by decide⟩ rfl rfl rfl ?_
  first | rw [n4] | skip
  refine z_bipush eX6_add_11 (by decide) ?_
  refine z_icmp_lt (tgt := 17) eX6_add_13 rfl ⟨⟨by omega, by omega⟩, ⟨by omega, by omega⟩⟩ (fun h13 => ?_) (fun h13 => (by exfalso; omega))
  refine z_al0 eX6_add_17 hne ?_
  first | refine z_ta0 lX6_9 eX6_add_18 rfl hT hA (by decide) rfl rfl ?_ | refine z_ta lX6_9 eX6_add_18 rfl hT hA ⟨by decide, by decide⟩ rfl rfl ?_
  first | rw [n4] | skip
  refine z_al0 eX6_add_21 hne ?_
  first | refine z_tg0 (j := 0) lX6_36 eX6_add_22 rfl hT hA (by decide) rfl rfl rfl ?_ | refine z_tg (j := 0) lX6_36 eX6_add_22 rfl hT hA ⟨by decide, by decide⟩ rfl rfl rfl ?_
  first | rw [n4] | skip
  refine z_il1 eX6_add_25 ?_
  refine z_ts eX6_add_26 hT hA ⟨by decide, by decide⟩ rfl rfl ⟨by omega, by omega⟩ ?_
  refine z_al0 eX6_add_27 hne ?_
  first | refine z_ta0 lX6_15 eX6_add_28 rfl hT hA (by decide) rfl rfl ?_ | refine z_ta lX6_15 eX6_add_28 rfl hT hA ⟨by decide, by decide⟩ rfl rfl ?_
  first | rw [n4] | skip
  refine z_al0 eX6_add_31 hne ?_
  first | refine z_tg0 (j := 0) lX6_36 eX6_add_32 rfl hT hA (by decide) rfl rfl rfl ?_ | refine z_tg (j := 0) lX6_36 eX6_add_32 rfl hT hA ⟨by decide, by decide⟩ rfl rfl rfl ?_
  first | rw [n4] | skip
  rw [o _ _ _ _ (by omega), n4]
  refine z_il2 eX6_add_35 ?_
  refine z_ts eX6_add_36 hT hA ⟨by decide, by decide⟩ rfl rfl ⟨by omega, by omega⟩ ?_
  refine z_al0 eX6_add_37 hne ?_
  first | refine z_ta0 lX6_18 eX6_add_38 rfl hT hA (by decide) rfl rfl ?_ | refine z_ta lX6_18 eX6_add_38 rfl hT hA ⟨by decide, by decide⟩ rfl rfl ?_
  first | rw [n4] | skip
  refine z_al0 eX6_add_41 hne ?_
  first | refine z_tg0 (j := 0) lX6_36 eX6_add_42 rfl hT hA (by decide) rfl rfl rfl ?_ | refine z_tg (j := 0) lX6_36 eX6_add_42 rfl hT hA ⟨by decide, by decide⟩ rfl rfl rfl ?_
  first | rw [n4] | skip
  rw [o _ _ _ _ (by omega), o _ _ _ _ (by omega), n4]
  refine z_il3 eX6_add_45 ?_
  refine z_ts eX6_add_46 hT hA ⟨by decide, by decide⟩ rfl rfl ⟨by omega, by omega⟩ ?_
  refine z_al0 eX6_add_47 hne ?_
  first | refine z_ta0 lX6_21 eX6_add_48 rfl hT hA (by decide) rfl rfl ?_ | refine z_ta lX6_21 eX6_add_48 rfl hT hA ⟨by decide, by decide⟩ rfl rfl ?_
  first | rw [n4] | skip
  refine z_al0 eX6_add_51 hne ?_
  first | refine z_tg0 (j := 0) lX6_36 eX6_add_52 rfl hT hA (by decide) rfl rfl rfl ?_ | refine z_tg (j := 0) lX6_36 eX6_add_52 rfl hT hA ⟨by decide, by decide⟩ rfl rfl rfl ?_
  first | rw [n4] | skip
  rw [o _ _ _ _ (by omega), o _ _ _ _ (by omega), o _ _ _ _ (by omega), n4]
  refine z_il4 eX6_add_55 ?_
  refine z_ts eX6_add_57 hT hA ⟨by decide, by decide⟩ rfl rfl ⟨by omega, by omega⟩ ?_
  refine z_al0 eX6_add_58 hne ?_
  first | refine z_ta0 lX6_24 eX6_add_59 rfl hT hA (by decide) rfl rfl ?_ | refine z_ta lX6_24 eX6_add_59 rfl hT hA ⟨by decide, by decide⟩ rfl rfl ?_
  first | rw [n4] | skip
  refine z_al0 eX6_add_62 hne ?_
  first | refine z_tg0 (j := 0) lX6_36 eX6_add_63 rfl hT hA (by decide) rfl rfl rfl ?_ | refine z_tg (j := 0) lX6_36 eX6_add_63 rfl hT hA ⟨by decide, by decide⟩ rfl rfl rfl ?_
  first | rw [n4] | skip
  rw [o _ _ _ _ (by omega), o _ _ _ _ (by omega), o _ _ _ _ (by omega), o _ _ _ _ (by omega), n4]
  refine z_iconst eX6_add_66 ?_
  refine z_ts eX6_add_67 hT hA ⟨by decide, by decide⟩ rfl rfl ⟨by omega, by omega⟩ ?_
  refine z_al0 eX6_add_68 hne ?_
  refine z_dup eX6_add_69 (Nat.ne_of_beq_eq_false rfl) ?_
  first | refine z_tg0 (j := 0) lX6_36 eX6_add_70 rfl hT hA (by decide) rfl rfl rfl ?_ | refine z_tg (j := 0) lX6_36 eX6_add_70 rfl hT hA ⟨by decide, by decide⟩ rfl rfl rfl ?_
  first | rw [n4] | skip
  rw [o _ _ _ _ (by omega), o _ _ _ _ (by omega), o _ _ _ _ (by omega), o _ _ _ _ (by omega), o _ _ _ _ (by omega), n4]
  refine z_iconst eX6_add_73 ?_
  refine z_iadd eX6_add_74 ?_
  first | refine z_tp0 (j := 0) lX6_36 eX6_add_75 rfl hT hA (by decide) rfl rfl rfl ?_ | refine z_tp (j := 0) lX6_36 eX6_add_75 rfl hT hA ⟨by decide, by decide⟩ rfl rfl rfl ?_
  refine z_return eX6_add_78 rfl ?_
  refine zZv ⟨(((((((zOut.refl _ _ _).set ⟨by omega, by omega⟩).set ⟨by omega, by omega⟩).set ⟨by omega, by omega⟩).set ⟨by omega, by omega⟩).set ⟨by omega, by omega⟩).set ⟨by omega, by omega⟩), ?_⟩
  refine ⟨by rw [zset_eq, e4], fun k k0 k1 => ?_, fun t t0 t1 => ?_⟩
  · rw [e4] at k1
    by_cases c : k = M 4
    · rw [c, f0, f1, f2, f3, f4]
      refine ⟨?_, ?_, ?_, ?_, ?_⟩
      · iterate 5 rw [zset_o (by omega)]
        rw [zset_eq]
      · iterate 4 rw [zset_o (by omega)]
        rw [zset_eq]
      · iterate 3 rw [zset_o (by omega)]
        rw [zset_eq]
      · iterate 2 rw [zset_o (by omega)]
        rw [zset_eq]
      · rw [zset_o (by omega), zset_eq]
    · have hk := hW.2.1 k k0 (by omega)
      rw [e _ (by omega) (by omega), e _ (by omega) (by omega), e _ (by omega) (by omega), e _ (by omega) (by omega), e _ (by omega) (by omega)]
      refine ⟨?_, ?_, ?_, ?_, ?_⟩
      · iterate 5 rw [zset_o (by omega)]
        rw [zset_f c]; exact hk.1
      · iterate 4 rw [zset_o (by omega)]
        rw [zset_f c, zset_o (by omega)]; exact hk.2.1
      · iterate 3 rw [zset_o (by omega)]
        rw [zset_f c]; iterate 2 rw [zset_o (by omega)]
        exact hk.2.2.1
      · iterate 2 rw [zset_o (by omega)]
        rw [zset_f c]; iterate 3 rw [zset_o (by omega)]
        exact hk.2.2.2.1
      · rw [zset_o (by omega), zset_f c]; iterate 4 rw [zset_o (by omega)]
        exact hk.2.2.2.2
  · iterate 6 rw [zset_o (by omega)]
    rw [e _ (by omega) (by omega)]; exact hW.2.2 t t0 t1
theorem c_X0_takeSet {G : zG} {lay : zLay} {s C0 : zMem} {nx x e a : Int} {T M : Int → Int} (hT : TopL lay x) (hX : TxC x s 274 T e) (ha : 0 ≤ a ∧ a ≤ e) (hN : CoN s 276 M) (h3 : 1 ≤ M 3 ∧ M 3 ≤ 7) (hr : qscan qdig T e (qscan qbl T e a) = qscan qbl T e a + M 3) : zMM G 2 KX0_takeSet [zP (x + 273)] lay (tC x (zTk s 274 T e a (-1)) C0) nx (0, 0) (zR (some (zI (zors (fun p => zshl (T (qscan qbl T e a + p) - 48) p) (M 3)))) lay (tC x (zTk s 274 T e (qscan qbl T e a + M 3) (-1)) C0) nx) := by
  refine z_met' (L := [zP (x + 273), zU, zU]) gX0_takeSet.1 rfl rfl (Nat.le_of_ble_eq_true rfl) rfl ?_
  have hA := CxAt
  have hD := isCo.draft
  have hx := hT.1
  have hne : x + 273 ≠ -1 := by omega
  have hbd := qskip_bd (T := T) ha.2
  have n3 : zTk s 274 T e a (-1) 276 1 = M 3 := by rw [zTk_o (by decide)]; exact hN.n3
  obtain ⟨b, hb⟩ : ∃ b, qscan qbl T e a = b := ⟨_, rfl⟩
  rw [hb] at hr hbd ⊢
  have hst : qStop T e b = b + M 3 := by
    by_cases c : b < e
    · by_cases c2 : qdig (T b) = true
      · rw [qStop_dig c c2]; exact hr
      · rw [qscan_f c c2] at hr; omega
    · rw [qscan_ge (by omega)] at hr; omega
  have hs5 := qscan_bd (P := qdig) (T := T) (e := e) (k := b)
  have hl : ∀ t : Int, 0 ≤ t → t ≤ M 3 → zW G KX0_takeSet 2 (zR (some (zI (zors (fun p => zshl (T (b + p) - 48) p) (M 3)))) lay (tC x (zTk s 274 T e (b + M 3) (-1)) C0) nx) 4 [zP (x + 273), zI (zors (fun p => zshl (T (b + p) - 48) p) t), zI t] [] lay (tC x (zTk s 274 T e a (-1)) C0) nx (0, 0) := by
    refine z_up (M 3) ?_ ?_
    · skip
      refine z_il2 eX0_takeSet_4 ?_
      refine z_al0 eX0_takeSet_5 hne ?_
      first | refine z_ta0 lX0_21 eX0_takeSet_6 rfl hT hA (by decide) rfl rfl ?_ | refine z_ta lX0_21 eX0_takeSet_6 rfl hT hA ⟨by decide, by decide⟩ rfl rfl ?_
      first | rw [zTk_o (by decide), show s (273 + 3) 1 = M 3 from hN.n3] | skip
      first | refine z_tg0 (j := 1) lX0_53 eX0_takeSet_9 rfl hT hD (by decide) rfl rfl rfl ?_ | refine z_tg (j := 1) lX0_53 eX0_takeSet_9 rfl hT hD ⟨by decide, by decide⟩ rfl rfl rfl ?_
      first | rw [zTk_o (by decide), show s (273 + 3) 1 = M 3 from hN.n3] | skip
      refine z_icmp_ge (tgt := 34) eX0_takeSet_12 rfl ⟨⟨by omega, by omega⟩, ⟨by omega, by omega⟩⟩ (fun h12 => ?_) (fun h12 => (by exfalso; omega))
      refine z_al0 eX0_takeSet_34 hne ?_
      first | refine z_ta0 lX0_12 eX0_takeSet_35 rfl hT hA (by decide) rfl rfl ?_ | refine z_ta lX0_12 eX0_takeSet_35 rfl hT hA ⟨by decide, by decide⟩ rfl rfl ?_
      first | rw [zTk_o (by decide), show s (273 + 3) 1 = M 3 from hN.n3] | skip
      rw [show zTk s 274 T e a (-1) = zWd s 274 (-1) b (b + M 3) (qKind T e b) by unfold zTk; rw [hb, hst]]
      refine z_V0v eX0_takeSet_38 vX0_134 rfl rfl (Nat.le_of_ble_eq_true rfl) (Nat.le_of_ble_eq_true rfl) ((WdAt.a).L0 hT (by decide)) (c_X10_advance hT hX (s := b + M 3) ⟨by omega, by omega⟩) ?_
      first | rw [zTk_o (by decide), show s (273 + 3) 1 = M 3 from hN.n3] | skip
      refine z_il1 eX0_takeSet_41 ?_
      refine z_ireturn eX0_takeSet_42 rfl ?_
      first | exact ⟨rfl, rfl, rfl, rfl⟩ | exact zRb1 (by omega) | exact zRb0 (by omega) | exact zRe (by omega)
    · intro t h0 h1 ih
      refine z_il2 eX0_takeSet_4 ?_
      refine z_al0 eX0_takeSet_5 hne ?_
      first | refine z_ta0 lX0_21 eX0_takeSet_6 rfl hT hA (by decide) rfl rfl ?_ | refine z_ta lX0_21 eX0_takeSet_6 rfl hT hA ⟨by decide, by decide⟩ rfl rfl ?_
      first | rw [zTk_o (by decide), show s (273 + 3) 1 = M 3 from hN.n3] | skip
      first | refine z_tg0 (j := 1) lX0_53 eX0_takeSet_9 rfl hT hD (by decide) rfl rfl rfl ?_ | refine z_tg (j := 1) lX0_53 eX0_takeSet_9 rfl hT hD ⟨by decide, by decide⟩ rfl rfl rfl ?_
      first | rw [zTk_o (by decide), show s (273 + 3) 1 = M 3 from hN.n3] | skip
      refine z_icmp_ge (tgt := 34) eX0_takeSet_12 rfl ⟨⟨by omega, by omega⟩, ⟨by omega, by omega⟩⟩ (fun h12 => (by exfalso; omega)) (fun h12 => ?_)
      refine z_il1 eX0_takeSet_15 ?_
      refine z_al0 eX0_takeSet_16 hne ?_
      first | refine z_ta0 lX0_12 eX0_takeSet_17 rfl hT hA (by decide) rfl rfl ?_ | refine z_ta lX0_12 eX0_takeSet_17 rfl hT hA ⟨by decide, by decide⟩ rfl rfl ?_
      first | rw [zTk_o (by decide), show s (273 + 3) 1 = M 3 from hN.n3] | skip
      refine z_il2 eX0_takeSet_20 ?_
      refine z_V1 eX0_takeSet_21 vX0_171 rfl rfl (Nat.le_of_ble_eq_true rfl) (Nat.le_of_ble_eq_true rfl) ((WdAt.a).L0 hT (by decide)) (c_X10_figure hT hX ⟨by omega, by omega⟩ ⟨by omega, by omega⟩) ?_
      first | rw [zTk_o (by decide), show s (273 + 3) 1 = M 3 from hN.n3] | skip
      rw [hb, if_pos ⟨by omega, by omega⟩]
      refine z_il2 eX0_takeSet_24 ?_
      refine z_ishl eX0_takeSet_25 ?_
      refine z_ior eX0_takeSet_26 ?_
      refine z_is1 eX0_takeSet_27 (Nat.ne_of_beq_eq_false rfl) ?_
      refine z_ii2 eX0_takeSet_28 (Nat.ne_of_beq_eq_false rfl) ?_
      refine z_goto eX0_takeSet_31 (tgt := 4) rfl ?_
      rw [zors_s _ h0] at ih; exact ih
  refine z_iconst eX0_takeSet_0 ?_
  refine z_is1 eX0_takeSet_1 (Nat.ne_of_beq_eq_false rfl) ?_
  refine z_iconst eX0_takeSet_2 ?_
  refine z_is2 eX0_takeSet_3 (Nat.ne_of_beq_eq_false rfl) ?_
  exact hl 0 (by decide) (by omega)
theorem qMotionLine_e {T : Int → Int} {e beg a : Int} {M : Int → Int} (h4 : M 4 ≠ 8) {r s t w : Int × Int × Int} (hr : qAfter T e qw_of 0 (M 3 - 1) a (-1) = r) (hs : qAfter T e qw_takes 1 9 r.2.1 r.2.2 = s) (ht : qAfter T e qw_worth 0 99 s.2.1 s.2.2 = t) (hw : qFor T e (M 3) r.1 t.2.1 t.2.2 = w) : qMotionLine T e M beg a = (if w.2.2 = -1 then qMot M r.1 s.1 t.1 w.1 else M, w.2) := by
  subst hw ht hs hr
  unfold qMotionLine
  rw [if_neg h4]
theorem qFor_x {T : Int → Int} {e m mv a f : Int} (h : f ≠ -1) : qFor T e m mv a f = (zshl 1 mv, a, f) := by unfold qFor; rw [if_neg h]
theorem qFor_f {T : Int → Int} {e m mv a : Int} (h : ¬ qhas T e (qscan qbl T e a) qw_for) : qFor T e m mv a (-1) = (zshl 1 mv, qscan qbl T e a, -1) := by unfold qFor; rw [if_pos rfl, zif_f h]
theorem qFor_n {T : Int → Int} {e m mv a b : Int} (h : qhas T e (qscan qbl T e a) qw_for) (hb : qscan qbl T e (qscan qbl T e a + 3) = b) (hb0 : 0 ≤ b) (h2 : ¬ (qscan qdig T e b = b + m ∧ qmost T b m 1)) : qFor T e m mv a (-1) = (0, b, b) := by
  have hr : qRow T e m 1 (qscan qbl T e a + 3) (-1) = (b, b, b) := by unfold qRow; rw [if_pos rfl, hb, zif_f h2]
  unfold qFor
  rw [if_pos rfl, zif_t h, hr, if_neg (by show ¬ b = -1; omega)]
theorem qFor_t {T : Int → Int} {e m mv a b : Int} (h : qhas T e (qscan qbl T e a) qw_for) (hb : qscan qbl T e (qscan qbl T e a + 3) = b) (h2 : qscan qdig T e b = b + m ∧ qmost T b m 1) : qFor T e m mv a (-1) = (zors (fun p => zshl (T (b + p) - 48) p) m, b + m, -1) := by
  have hr : qRow T e m 1 (qscan qbl T e a + 3) (-1) = (b, b + m, -1) := by unfold qRow; rw [if_pos rfl, hb, zif_t h2]
  unfold qFor
  rw [if_pos rfl, zif_t h, hr, if_pos rfl]
theorem c_X0_readMotion {G : zG} {lay : zLay} {s C0 : zMem} {nx x e a : Int} {T M : Int → Int} (hT : TopL lay x) (hX : TxC x s 274 T e) (ha : 0 ≤ a ∧ a ≤ e) (hN : CoN s 276 M) (hM : zOC M) (hS : TxS lay C0) (hh : qhas T e (qscan qbl T e a) qw_motion) (h4 : M 4 < 8) : zMM G 9 KX0_readMotion [zP (x + 273)] lay (tC x (zTk s 274 T e a (-1)) C0) nx (0, 0) (zZ' (some (zI (zbi ((qMotionLine T e M (qscan qbl T e a) (qscan qbl T e a + 6)).2.2 = -1)))) (zRdC s T e (qMotionLine T e M (qscan qbl T e a) (qscan qbl T e a + 6))) lay C0 nx x) := by
  refine z_met' (L := [zP (x + 273), zU, zU, zU, zU]) gX0_readMotion.1 rfl rfl (Nat.le_of_ble_eq_true rfl) rfl ?_
  have hA := CxAt
  have hD := isCo.draft
  have hx := hT.1
  have hne : x + 273 ≠ -1 := by omega
  have he := hX.e0
  have hI := hM.I
  have hm3 := hI.m3
  have hm4 := hI.m4
  have hh0 := qhas_pos (n := 6) hh rfl (by decide) ha
  have hs0 := qhas_stop (n := 6) hh rfl (by decide) (qskip_bd (T := T) ha.2).2
  obtain ⟨a1, ha1⟩ : ∃ a1, qscan qbl T e a + 6 = a1 := ⟨_, rfl⟩
  obtain ⟨Q, hQ⟩ : ∃ Q, zZ' (some (zI (zbi ((qMotionLine T e M (qscan qbl T e a) (qscan qbl T e a + 6)).2.2 = -1)))) (zRdC s T e (qMotionLine T e M (qscan qbl T e a) (qscan qbl T e a + 6))) lay C0 nx x = Q := ⟨_, rfl⟩
  have hNk : ∀ a f, CoN (zTk s 274 T e a f) 276 M := fun a f => hN.far (fun i i0 i1 => zTk_o (by omega))
  have n3 : ∀ a f, zTk s 274 T e a f 276 1 = M 3 := fun a f => (hNk a f).n3
  have hex : ∀ {r s9 t w : Int × Int × Int}, qAfter T e qw_of 0 (M 3 - 1) a1 (-1) = r → qAfter T e qw_takes 1 9 r.2.1 r.2.2 = s9 → qAfter T e qw_worth 0 99 s9.2.1 s9.2.2 = t → qFor T e (M 3) r.1 t.2.1 t.2.2 = w → (qMotionLine T e M (qscan qbl T e a) (qscan qbl T e a + 6)) = (if w.2.2 = -1 then qMot M r.1 s9.1 t.1 w.1 else M, w.2) := by
    intro r s9 t w h1 h2 h3 h5
    rw [ha1, qMotionLine_e (by omega) h1 h2 h3 h5]
  have hx1 : ∀ {r : Int × Int × Int}, qAfter T e qw_of 0 (M 3 - 1) a1 (-1) = r → r.2.2 ≠ -1 → (qMotionLine T e M (qscan qbl T e a) (qscan qbl T e a + 6)).2.2 = r.2.2 := by
    intro r h1 h2
    rw [hex h1 (qAfter_x h2) (qAfter_x h2) (qFor_x h2)]
  have hx2 : ∀ {r s9 : Int × Int × Int}, qAfter T e qw_of 0 (M 3 - 1) a1 (-1) = r → qAfter T e qw_takes 1 9 r.2.1 r.2.2 = s9 → s9.2.2 ≠ -1 → (qMotionLine T e M (qscan qbl T e a) (qscan qbl T e a + 6)).2.2 = s9.2.2 := by
    intro r s9 h1 h2 h3
    rw [hex h1 h2 (qAfter_x h3) (qFor_x h3)]
  have hx3 : ∀ {r s9 t : Int × Int × Int}, qAfter T e qw_of 0 (M 3 - 1) a1 (-1) = r → qAfter T e qw_takes 1 9 r.2.1 r.2.2 = s9 → qAfter T e qw_worth 0 99 s9.2.1 s9.2.2 = t → t.2.2 ≠ -1 → (qMotionLine T e M (qscan qbl T e a) (qscan qbl T e a + 6)).2.2 = t.2.2 := by
    intro r s9 t h1 h2 h3 h5
    rw [hex h1 h2 h3 (qFor_x h5)]
  have w155 : ∀ (F S U W : Int × Int × Int) (a2 : Int), qAfter T e qw_of 0 (M 3 - 1) a1 (-1) = F → qAfter T e qw_takes 1 9 F.2.1 F.2.2 = S → qAfter T e qw_worth 0 99 S.2.1 S.2.2 = U → qFor T e (M 3) F.1 U.2.1 U.2.2 = W → W.2.2 = -1 → qscan qbl T e W.2.1 = qscan qbl T e a2 → zW G KX0_readMotion 9 Q 155 [zP (x + 273), zI F.1, zI S.1, zI U.1, zI W.1] [] lay (tC x (zTk s 274 T e a2 (-1)) C0) nx (0, 0) := by
    intro F S U W a2 h1 h2 h3 h5 h6 h7
    rw [← hQ, hex h1 h2 h3 h5, if_pos h6]
    refine z_al0 eX0_readMotion_155 hne ?_
    first | refine z_ta0 lX0_21 eX0_readMotion_156 rfl hT hA (by decide) rfl rfl ?_ | refine z_ta lX0_21 eX0_readMotion_156 rfl hT hA ⟨by decide, by decide⟩ rfl rfl ?_
    first | refine z_ta0 lX0_62 eX0_readMotion_159 rfl hT hD (by decide) rfl rfl ?_ | refine z_ta lX0_62 eX0_readMotion_159 rfl hT hD ⟨by decide, by decide⟩ rfl rfl ?_
    refine z_il1 eX0_readMotion_162 ?_
    refine z_il2 eX0_readMotion_163 ?_
    refine z_il3 eX0_readMotion_164 ?_
    refine z_il4 eX0_readMotion_165 ?_
    refine z_V4vz eX0_readMotion_167 vX0_167 rfl rfl (Nat.le_of_ble_eq_true rfl) (Nat.le_of_ble_eq_true rfl) ((hD.mo).L0 hT (by decide)) (c_X6_add hT hD.mo (hNk _ _).mo ⟨hm4.1, h4⟩) (fun s167 hs167 => ?_)
    obtain ⟨q1, q2⟩ := hs167
    refine z_iconst eX0_readMotion_170 ?_
    refine z_zreturn eX0_readMotion_171 rfl (by first | exact Or.inl rfl | exact Or.inr rfl | exact zbi_01 _ | assumption | omega) ?_
    exact zRdq h6 h7 (q1.sub ⟨by decide, by decide⟩) ((congrFun (q1 276 (by decide)) 10).trans (by rw [zTk_o (by decide)])) ((hNk _ _).mot hI q1 (fun j hj => by show qMot M F.1 S.1 U.1 W.1 j = M j; unfold qMot; rw [zput_ne (by omega), zput_ne (by omega), zput_ne (by omega), zput_ne (by omega), zput_ne (by omega), zput_ne (by omega)]) q2)
  rw [hQ]
  refine z_al0 eX0_readMotion_0 hne ?_
  first | refine z_ta0 lX0_12 eX0_readMotion_1 rfl hT hA (by decide) rfl rfl ?_ | refine z_ta lX0_12 eX0_readMotion_1 rfl hT hA ⟨by decide, by decide⟩ rfl rfl ?_
  first | rw [zTk_o (by decide), show s (273 + 3) 1 = M 3 from hN.n3] | skip
  refine z_V0v eX0_readMotion_4 vX0_134 rfl rfl (Nat.le_of_ble_eq_true rfl) (Nat.le_of_ble_eq_true rfl) ((WdAt.a).L0 hT (by decide)) (c_X10_advance hT hX (s := qStop T e (qscan qbl T e a)) ⟨by omega, by omega⟩) ?_
  first | rw [zTk_o (by decide), show s (273 + 3) 1 = M 3 from hN.n3] | skip
  rw [hs0.2.2.1, ha1]
  refine z_al0 eX0_readMotion_7 hne ?_
  first | refine z_ta0 lX0_12 eX0_readMotion_8 rfl hT hA (by decide) rfl rfl ?_ | refine z_ta lX0_12 eX0_readMotion_8 rfl hT hA ⟨by decide, by decide⟩ rfl rfl ?_
  first | rw [zTk_o (by decide), show s (273 + 3) 1 = M 3 from hN.n3] | skip
  refine z_ldcS (t := 6) eX0_readMotion_11 rfl rfl rfl (by rw [(hS 6 _ rfl).1]) ?_
  refine z_V1 eX0_readMotion_13 vX0_139 rfl rfl (Nat.le_of_ble_eq_true rfl) (Nat.le_of_ble_eq_true rfl) ((WdAt.a).L0 hT (by decide)) (c_X10_needWord hT hX ⟨by omega, by omega⟩ hS (t := 6) (wd := qw_of) (n := 2) rfl rfl (by decide) rfl) ?_
  first | rw [zTk_o (by decide), show s (273 + 3) 1 = M 3 from hN.n3] | skip
  refine z_ifk_ne (tgt := 21) eX0_readMotion_16 rfl (fun h16 => ?_) (fun h16 => ?_)
  · have hw16 := qhas_pos (wd := qw_of) (n := 2) h16 rfl (by decide) ⟨by omega, by omega⟩
    refine z_al0 eX0_readMotion_21 hne ?_
    first | refine z_ta0 lX0_12 eX0_readMotion_22 rfl hT hA (by decide) rfl rfl ?_ | refine z_ta lX0_12 eX0_readMotion_22 rfl hT hA ⟨by decide, by decide⟩ rfl rfl ?_
    first | rw [zTk_o (by decide), show s (273 + 3) 1 = M 3 from hN.n3] | skip
    refine z_iconst eX0_readMotion_25 ?_
    refine z_al0 eX0_readMotion_26 hne ?_
    first | refine z_ta0 lX0_21 eX0_readMotion_27 rfl hT hA (by decide) rfl rfl ?_ | refine z_ta lX0_21 eX0_readMotion_27 rfl hT hA ⟨by decide, by decide⟩ rfl rfl ?_
    first | rw [zTk_o (by decide), show s (273 + 3) 1 = M 3 from hN.n3] | skip
    first | refine z_tg0 (j := 1) lX0_53 eX0_readMotion_30 rfl hT hD (by decide) rfl rfl rfl ?_ | refine z_tg (j := 1) lX0_53 eX0_readMotion_30 rfl hT hD ⟨by decide, by decide⟩ rfl rfl rfl ?_
    first | rw [zTk_o (by decide), show s (273 + 3) 1 = M 3 from hN.n3] | skip
    refine z_iconst eX0_readMotion_33 ?_
    refine z_isub eX0_readMotion_34 ?_
    refine z_tkn eX0_readMotion_35 vX0_111 rfl rfl (Nat.le_of_ble_eq_true rfl) (Nat.le_of_ble_eq_true rfl) hT hX ⟨by omega, by omega⟩ ⟨by omega, by omega⟩ ⟨by omega, by omega⟩ (fun F35 hF35 hG35 hB35 hP35 => ?_) (fun F35 hF35 hG35 hB35 => ?_)
    · refine z_is1 eX0_readMotion_38 (Nat.ne_of_beq_eq_false rfl) ?_
      refine z_il1 eX0_readMotion_39 ?_
      refine z_iconst eX0_readMotion_40 ?_
      refine z_icmp_eq (tgt := 56) eX0_readMotion_41 rfl ⟨⟨by omega, by omega⟩, ⟨by omega, by omega⟩⟩ (fun h41 => (by exfalso; omega)) (fun h41 => ?_)
      refine z_al0 eX0_readMotion_44 hne ?_
      first | refine z_ta0 lX0_12 eX0_readMotion_45 rfl hT hA (by decide) rfl rfl ?_ | refine z_ta lX0_12 eX0_readMotion_45 rfl hT hA ⟨by decide, by decide⟩ rfl rfl ?_
      first | rw [zTk_o (by decide), show s (273 + 3) 1 = M 3 from hN.n3] | skip
      refine z_ldcS (t := 7) eX0_readMotion_48 rfl rfl rfl (by rw [(hS 7 _ rfl).1]) ?_
      refine z_V1 eX0_readMotion_50 vX0_139 rfl rfl (Nat.le_of_ble_eq_true rfl) (Nat.le_of_ble_eq_true rfl) ((WdAt.a).L0 hT (by decide)) (c_X10_needWord hT hX ⟨by omega, by omega⟩ hS (t := 7) (wd := qw_takes) (n := 5) rfl rfl (by decide) rfl) ?_
      first | rw [zTk_o (by decide), show s (273 + 3) 1 = M 3 from hN.n3] | skip
      refine z_ifk_ne (tgt := 58) eX0_readMotion_53 rfl (fun h53 => ?_) (fun h53 => ?_)
      · have hw53 := qhas_pos (wd := qw_takes) (n := 5) h53 rfl (by decide) ⟨by omega, by omega⟩
        refine z_al0 eX0_readMotion_58 hne ?_
        first | refine z_ta0 lX0_12 eX0_readMotion_59 rfl hT hA (by decide) rfl rfl ?_ | refine z_ta lX0_12 eX0_readMotion_59 rfl hT hA ⟨by decide, by decide⟩ rfl rfl ?_
        first | rw [zTk_o (by decide), show s (273 + 3) 1 = M 3 from hN.n3] | skip
        refine z_iconst eX0_readMotion_62 ?_
        refine z_bipush eX0_readMotion_63 (by decide) ?_
        refine z_tkn eX0_readMotion_65 vX0_111 rfl rfl (Nat.le_of_ble_eq_true rfl) (Nat.le_of_ble_eq_true rfl) hT hX ⟨by omega, by omega⟩ ⟨by omega, by omega⟩ ⟨by omega, by omega⟩ (fun F65 hF65 hG65 hB65 hP65 => ?_) (fun F65 hF65 hG65 hB65 => ?_)
        · refine z_is2 eX0_readMotion_68 (Nat.ne_of_beq_eq_false rfl) ?_
          refine z_il2 eX0_readMotion_69 ?_
          refine z_iconst eX0_readMotion_70 ?_
          refine z_icmp_eq (tgt := 86) eX0_readMotion_71 rfl ⟨⟨by omega, by omega⟩, ⟨by omega, by omega⟩⟩ (fun h71 => (by exfalso; omega)) (fun h71 => ?_)
          refine z_al0 eX0_readMotion_74 hne ?_
          first | refine z_ta0 lX0_12 eX0_readMotion_75 rfl hT hA (by decide) rfl rfl ?_ | refine z_ta lX0_12 eX0_readMotion_75 rfl hT hA ⟨by decide, by decide⟩ rfl rfl ?_
          first | rw [zTk_o (by decide), show s (273 + 3) 1 = M 3 from hN.n3] | skip
          refine z_ldcS (t := 8) eX0_readMotion_78 rfl rfl rfl (by rw [(hS 8 _ rfl).1]) ?_
          refine z_V1 eX0_readMotion_80 vX0_139 rfl rfl (Nat.le_of_ble_eq_true rfl) (Nat.le_of_ble_eq_true rfl) ((WdAt.a).L0 hT (by decide)) (c_X10_needWord hT hX ⟨by omega, by omega⟩ hS (t := 8) (wd := qw_worth) (n := 5) rfl rfl (by decide) rfl) ?_
          first | rw [zTk_o (by decide), show s (273 + 3) 1 = M 3 from hN.n3] | skip
          refine z_ifk_ne (tgt := 88) eX0_readMotion_83 rfl (fun h83 => ?_) (fun h83 => ?_)
          · have hw83 := qhas_pos (wd := qw_worth) (n := 5) h83 rfl (by decide) ⟨by omega, by omega⟩
            refine z_al0 eX0_readMotion_88 hne ?_
            first | refine z_ta0 lX0_12 eX0_readMotion_89 rfl hT hA (by decide) rfl rfl ?_ | refine z_ta lX0_12 eX0_readMotion_89 rfl hT hA ⟨by decide, by decide⟩ rfl rfl ?_
            first | rw [zTk_o (by decide), show s (273 + 3) 1 = M 3 from hN.n3] | skip
            refine z_iconst eX0_readMotion_92 ?_
            refine z_bipush eX0_readMotion_93 (by decide) ?_
            refine z_tkn eX0_readMotion_95 vX0_111 rfl rfl (Nat.le_of_ble_eq_true rfl) (Nat.le_of_ble_eq_true rfl) hT hX ⟨by omega, by omega⟩ ⟨by omega, by omega⟩ ⟨by omega, by omega⟩ (fun F95 hF95 hG95 hB95 hP95 => ?_) (fun F95 hF95 hG95 hB95 => ?_)
            · refine z_is3 eX0_readMotion_98 (Nat.ne_of_beq_eq_false rfl) ?_
              refine z_il3 eX0_readMotion_99 ?_
              refine z_iconst eX0_readMotion_100 ?_
              refine z_icmp_ne (tgt := 106) eX0_readMotion_101 rfl ⟨⟨by omega, by omega⟩, ⟨by omega, by omega⟩⟩ (fun h101 => ?_) (fun h101 => (by exfalso; omega))
              refine z_iconst eX0_readMotion_106 ?_
              refine z_il1 eX0_readMotion_107 ?_
              refine z_ishl eX0_readMotion_108 ?_
              refine z_is4 eX0_readMotion_109 (Nat.ne_of_beq_eq_false rfl) ?_
              have k1 := (qAfter_t (w := qw_of) (n := 2) rfl h16).trans hF35
              have k2 : qAfter T e qw_takes 1 9 F35.2.1 F35.2.2 = F65 := by rw [hG35]; exact (qAfter_t (w := qw_takes) (n := 5) rfl h53).trans hF65
              have k3 : qAfter T e qw_worth 0 99 F65.2.1 F65.2.2 = F95 := by rw [hG65]; exact (qAfter_t (w := qw_worth) (n := 5) rfl h83).trans hF95
              refine z_al0 eX0_readMotion_111 hne ?_
              first | refine z_ta0 lX0_12 eX0_readMotion_112 rfl hT hA (by decide) rfl rfl ?_ | refine z_ta lX0_12 eX0_readMotion_112 rfl hT hA ⟨by decide, by decide⟩ rfl rfl ?_
              first | rw [zTk_o (by decide), show s (273 + 3) 1 = M 3 from hN.n3] | skip
              refine z_ldcS (t := 9) eX0_readMotion_115 rfl rfl rfl (by rw [(hS 9 _ rfl).1]) ?_
              refine z_V1 eX0_readMotion_117 vX0_76 rfl rfl (Nat.le_of_ble_eq_true rfl) (Nat.le_of_ble_eq_true rfl) ((WdAt.a).L0 hT (by decide)) (c_X10_takeWord hT hX ⟨by omega, by omega⟩ hS (t := 9) (wd := qw_for) (n := 3) rfl rfl (by decide)) ?_
              first | rw [zTk_o (by decide), show s (273 + 3) 1 = M 3 from hN.n3] | skip
              refine z_ifk_eq (tgt := 155) eX0_readMotion_120 rfl (fun h120 => ?_) (fun h120 => ?_)
              · by_cases hf9 : qhas T e (qscan qbl T e F95.2.1) qw_for
                · first | exact absurd hf9 h120 | exact w155 F35 F65 F95 (zors (fun p => zshl (T (qscan qbl T e (qscan qbl T e F95.2.1 + 3) + p) - 48) p) (M 3), qscan qbl T e (qscan qbl T e F95.2.1 + 3) + M 3, -1) (qscan qbl T e (qscan qbl T e F95.2.1 + 3) + M 3) k1 k2 k3 (by rw [hG95]; exact qFor_t hf9 rfl h138) rfl rfl
                · first | exact absurd h120 hf9 | exact w155 F35 F65 F95 (zshl 1 F35.1, qscan qbl T e F95.2.1, -1) F95.2.1 k1 k2 k3 (by rw [hG95]; exact qFor_f hf9) rfl qskip_idem
              · have hw120 := qhas_pos (wd := qw_for) (n := 3) h120 rfl (by decide) ⟨by omega, by omega⟩
                refine z_al0 eX0_readMotion_123 hne ?_
                first | refine z_ta0 lX0_12 eX0_readMotion_124 rfl hT hA (by decide) rfl rfl ?_ | refine z_ta lX0_12 eX0_readMotion_124 rfl hT hA ⟨by decide, by decide⟩ rfl rfl ?_
                first | rw [zTk_o (by decide), show s (273 + 3) 1 = M 3 from hN.n3] | skip
                refine z_al0 eX0_readMotion_127 hne ?_
                first | refine z_ta0 lX0_21 eX0_readMotion_128 rfl hT hA (by decide) rfl rfl ?_ | refine z_ta lX0_21 eX0_readMotion_128 rfl hT hA ⟨by decide, by decide⟩ rfl rfl ?_
                first | rw [zTk_o (by decide), show s (273 + 3) 1 = M 3 from hN.n3] | skip
                first | refine z_tg0 (j := 1) lX0_53 eX0_readMotion_131 rfl hT hD (by decide) rfl rfl rfl ?_ | refine z_tg (j := 1) lX0_53 eX0_readMotion_131 rfl hT hD ⟨by decide, by decide⟩ rfl rfl rfl ?_
                first | rw [zTk_o (by decide), show s (273 + 3) 1 = M 3 from hN.n3] | skip
                refine z_iconst eX0_readMotion_134 ?_
                refine z_V2 eX0_readMotion_135 vX0_160 rfl rfl (Nat.le_of_ble_eq_true rfl) (Nat.le_of_ble_eq_true rfl) ((WdAt.a).L0 hT (by decide)) (c_X10_atFigures hT hX ⟨by omega, by omega⟩ ⟨by omega, by omega⟩ ⟨by omega, by omega⟩) ?_
                first | rw [zTk_o (by decide), show s (273 + 3) 1 = M 3 from hN.n3] | skip
                refine z_ifb_ne (tgt := 149) eX0_readMotion_138 rfl (fun h138 => ?_) (fun h138 => ?_)
                · refine z_al0 eX0_readMotion_149 hne ?_
                  refine z_V0 eX0_readMotion_150 vX0_164 rfl rfl (Nat.le_of_ble_eq_true rfl) (Nat.le_of_ble_eq_true rfl) ((hA).L0 hT (by decide)) (c_X0_takeSet hT hX ⟨by omega, by omega⟩ hN ⟨by omega, by omega⟩ h138.1) ?_
                  first | rw [zTk_o (by decide), show s (273 + 3) 1 = M 3 from hN.n3] | skip
                  refine z_is4 eX0_readMotion_153 (Nat.ne_of_beq_eq_false rfl) ?_
                  by_cases hf9 : qhas T e (qscan qbl T e F95.2.1) qw_for
                  · first | exact absurd hf9 h120 | exact w155 F35 F65 F95 (zors (fun p => zshl (T (qscan qbl T e (qscan qbl T e F95.2.1 + 3) + p) - 48) p) (M 3), qscan qbl T e (qscan qbl T e F95.2.1 + 3) + M 3, -1) (qscan qbl T e (qscan qbl T e F95.2.1 + 3) + M 3) k1 k2 k3 (by rw [hG95]; exact qFor_t hf9 rfl h138) rfl rfl
                  · first | exact absurd h120 hf9 | exact w155 F35 F65 F95 (zshl 1 F35.1, qscan qbl T e F95.2.1, -1) F95.2.1 k1 k2 k3 (by rw [hG95]; exact qFor_f hf9) rfl qskip_idem
                · refine z_al0 eX0_readMotion_141 hne ?_
                  first | refine z_ta0 lX0_12 eX0_readMotion_142 rfl hT hA (by decide) rfl rfl ?_ | refine z_ta lX0_12 eX0_readMotion_142 rfl hT hA ⟨by decide, by decide⟩ rfl rfl ?_
                  first | rw [zTk_o (by decide), show s (273 + 3) 1 = M 3 from hN.n3] | skip
                  refine z_V0 eX0_readMotion_145 vX0_44 rfl rfl (Nat.le_of_ble_eq_true rfl) (Nat.le_of_ble_eq_true rfl) ((WdAt.a).L0 hT (by decide)) (c_X10_fail hT hX ⟨by omega, by omega⟩ (by decide)) ?_
                  rw [if_pos rfl]
                  first | rw [zTk_o (by decide), show s (273 + 3) 1 = M 3 from hN.n3] | skip
                  refine z_zreturn eX0_readMotion_148 rfl (by first | exact Or.inl rfl | exact Or.inr rfl | exact zbi_01 _ | assumption | omega) ?_
                  have hb9 := qskip_bd (T := T) (e := e) (a := qscan qbl T e F95.2.1 + 3) (by omega)
                  rw [← hQ]
                  have k5 := hex (w := (0, qscan qbl T e (qscan qbl T e F95.2.1 + 3), qscan qbl T e (qscan qbl T e F95.2.1 + 3))) k1 k2 k3 (by rw [hG95]; exact qFor_n h120 rfl (by omega) h138)
                  exact zRdf (by rw [k5]) (by omega) (zOut.refl _ _ _)
            · refine z_is3 eX0_readMotion_98 (Nat.ne_of_beq_eq_false rfl) ?_
              refine z_il3 eX0_readMotion_99 ?_
              refine z_iconst eX0_readMotion_100 ?_
              refine z_icmp_ne (tgt := 106) eX0_readMotion_101 rfl ⟨⟨by omega, by omega⟩, ⟨by omega, by omega⟩⟩ (fun h101 => (by exfalso; omega)) (fun h101 => ?_)
              refine z_iconst eX0_readMotion_104 ?_
              refine z_zreturn eX0_readMotion_105 rfl (by first | exact Or.inl rfl | exact Or.inr rfl | exact zbi_01 _ | assumption | omega) ?_
              rw [← hQ]
              exact zRdf (hx3 (s9 := F65) ((qAfter_t (w := qw_of) (n := 2) rfl h16).trans hF35) (by rw [hG35]; exact (qAfter_t (w := qw_takes) (n := 5) rfl h53).trans hF65) (by rw [hG65]; exact (qAfter_t (w := qw_worth) (n := 5) rfl h83).trans hF95) (by omega)) hB95 (zOut.refl _ _ _)
          · refine z_iconst eX0_readMotion_86 ?_
            refine z_zreturn eX0_readMotion_87 rfl (by first | exact Or.inl rfl | exact Or.inr rfl | exact zbi_01 _ | assumption | omega) ?_
            have hb9 := qskip_bd (T := T) (e := e) (a := F65.2.1) (by omega)
            rw [← hQ]
            exact zRdf (hx3 (s9 := F65) (t := (0, qscan qbl T e F65.2.1, qscan qbl T e F65.2.1)) ((qAfter_t (w := qw_of) (n := 2) rfl h16).trans hF35) (by rw [hG35]; exact (qAfter_t (w := qw_takes) (n := 5) rfl h53).trans hF65) (by rw [hG65]; exact qAfter_f h83) (by dsimp only; omega)) (by omega) (zOut.refl _ _ _)
        · refine z_is2 eX0_readMotion_68 (Nat.ne_of_beq_eq_false rfl) ?_
          refine z_il2 eX0_readMotion_69 ?_
          refine z_iconst eX0_readMotion_70 ?_
          refine z_icmp_eq (tgt := 86) eX0_readMotion_71 rfl ⟨⟨by omega, by omega⟩, ⟨by omega, by omega⟩⟩ (fun h71 => ?_) (fun h71 => (by exfalso; omega))
          refine z_iconst eX0_readMotion_86 ?_
          refine z_zreturn eX0_readMotion_87 rfl (by first | exact Or.inl rfl | exact Or.inr rfl | exact zbi_01 _ | assumption | omega) ?_
          rw [← hQ]
          exact zRdf (hx2 (s9 := F65) ((qAfter_t (w := qw_of) (n := 2) rfl h16).trans hF35) (by rw [hG35]; exact (qAfter_t (w := qw_takes) (n := 5) rfl h53).trans hF65) (by omega)) hB65 (zOut.refl _ _ _)
      · refine z_iconst eX0_readMotion_56 ?_
        refine z_zreturn eX0_readMotion_57 rfl (by first | exact Or.inl rfl | exact Or.inr rfl | exact zbi_01 _ | assumption | omega) ?_
        have hb9 := qskip_bd (T := T) (e := e) (a := F35.2.1) (by omega)
        rw [← hQ]
        exact zRdf (hx2 (s9 := (0, qscan qbl T e F35.2.1, qscan qbl T e F35.2.1)) ((qAfter_t (w := qw_of) (n := 2) rfl h16).trans hF35) (by rw [hG35]; exact qAfter_f h53) (by dsimp only; omega)) (by omega) (zOut.refl _ _ _)
    · refine z_is1 eX0_readMotion_38 (Nat.ne_of_beq_eq_false rfl) ?_
      refine z_il1 eX0_readMotion_39 ?_
      refine z_iconst eX0_readMotion_40 ?_
      refine z_icmp_eq (tgt := 56) eX0_readMotion_41 rfl ⟨⟨by omega, by omega⟩, ⟨by omega, by omega⟩⟩ (fun h41 => ?_) (fun h41 => (by exfalso; omega))
      refine z_iconst eX0_readMotion_56 ?_
      refine z_zreturn eX0_readMotion_57 rfl (by first | exact Or.inl rfl | exact Or.inr rfl | exact zbi_01 _ | assumption | omega) ?_
      rw [← hQ]
      exact zRdf (hx1 ((qAfter_t (w := qw_of) (n := 2) rfl h16).trans hF35) (by omega)) hB35 (zOut.refl _ _ _)
  · refine z_iconst eX0_readMotion_19 ?_
    refine z_zreturn eX0_readMotion_20 rfl (by first | exact Or.inl rfl | exact Or.inr rfl | exact zbi_01 _ | assumption | omega) ?_
    have hb9 := qskip_bd (T := T) (e := e) (a := a1) (by omega)
    rw [← hQ]
    exact zRdf (hx1 (qAfter_f h16) (by dsimp only; omega)) (by omega) (zOut.refl _ _ _)
