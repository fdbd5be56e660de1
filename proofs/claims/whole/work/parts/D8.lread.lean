/-! A text of the law, read. -/
noncomputable def qAF (T : Int → Int) (e : Int) (F : Int → Int) : Int → Int × Int × Int := qAtom T e F (F 7) (F 9) 6
noncomputable def qRF (T : Int → Int) (e : Int) (F : Int → Int) : Int × (Int × Int × Int) × Int × Int := qLaw T e (qAF T e F) (0, 0, 0) 0
theorem qRF_i (T : Int → Int) (e : Int) (F : Int → Int) : (qRF T e F).1 = (qRF T e qFz).1 ∧ (qRF T e F).2.2 = (qRF T e qFz).2.2 := qLaw_i (fun a => qAtom_i F qFz (F 7) (qFz 7) (F 9) (qFz 9) 6 a) _ _ _
theorem qRF_P (T : Int → Int) (e : Int) : qLawP T e = ((qRF T e qFz).1, (qRF T e qFz).2.2.2) := rfl
theorem qLawN_sk {T : Int → Int} {e n a : Int} {A : Int → Int × Int × Int} {k : Nat} {W : Int × Int × Int} : qLawN T e A (k + 1) n W (qscan qbl T e a) = qLawN T e A (k + 1) n W a := by
  unfold qLawN
  rw [qskip_idem]
theorem c_readText2 {G : zG} {lay : zLay} {σ C1 : zMem} {nx x e p : Int} {T : Int → Int} {Q : zQ} (hT : TopL lay x) (hL : LwA lay x p e) (hF : LwF C1 p) (h0 : C1 p 0 = 0) (h4 : C1 p 4 = 0) (hS : TxS lay C1) (he : 0 ≤ e ∧ e ≤ 400) (hTT : σ 1 = T) (hb : ∀ i, 0 ≤ i → i < 400 → 0 ≤ T i ∧ T i ≤ 255)
    (hgood : ∀ (a : Int) (C : zMem), (qRF T e qFz).2.2.2 = -1 → (∀ o, o < p → C o = C1 o) → zLI e p C (qRF T e qFz).1 (fun F => (qRF T e F).2.1) → Q (.inl (some (zI 1))) lay (tC x (zTk (zOpn x (zset σ 294 1 p) 295 e) 295 T e a (-1)) C) nx)
    (hbad : ∀ (q C : zMem), (qRF T e qFz).2.2.2 ≠ -1 → q 295 0 = (qRF T e qFz).2.2.2 → (∀ i, i ≠ 295 → q i = zOpn x (zset σ 294 1 p) 295 e i) → (∀ o, o < p → C o = C1 o) → Q (.inl (some (zI 0))) lay (tC x q C) nx) :
    zW G KX4_readText 61 Q 9 [zP (x + 294), zP (x + (0 + 1)), zI e, zU, zU, zU] [zP p, zP (x + 294)] lay (tC x σ C1) nx (0, 0) := by
  have hA := LxAt
  have hx := hT.1
  have hne : x + 294 ≠ -1 := by omega
  have hp0 := hL.p0
  have hT9 : zset σ 294 1 p 1 = T := by rw [zset_o (by decide)]; exact hTT
  have hX := TxC.start (x := x) (σ := zset σ 294 1 p) (w := 295) (e := e) (Or.inr rfl) he (by rw [hT9]; exact hb)
  rw [hT9] at hX
  have hd0 : zOpn x (zset σ 294 1 p) 295 e 294 1 = p := by rw [zOpn_o (by decide), zset_eq]
  have hs0 := qskip_bd (T := T) he.1
  have hR0 : ∀ F, qRF T e F = if qscan qbl T e 0 < e then qLawN T e (qAF T e F) 13 0 (0, 0, 0) (qscan qbl T e 0) else (0, (0, 0, 0), qscan qbl T e 0, -1) := fun F => rfl
  have hI := zLI.nil (e := e) h0 h4 he.1 hF
  first | refine z_tpd0 (j := 1) lX4_23 eX4_readText_9 rfl rfl hT hA (by decide) rfl rfl rfl ?_ | refine z_tpd (j := 1) lX4_23 eX4_readText_9 rfl rfl hT hA ⟨by decide, by decide⟩ rfl rfl rfl ?_
  refine z_al0 eX4_readText_12 hne ?_
  first | refine z_ta0 lX4_12 eX4_readText_13 rfl hT hA (by decide) rfl rfl ?_ | refine z_ta lX4_12 eX4_readText_13 rfl hT hA ⟨by decide, by decide⟩ rfl rfl ?_
  refine z_al1 eX4_readText_16 (by omega) ?_
  refine z_il2 eX4_readText_17 ?_
  refine z_V2v eX4_readText_18 vX4_27 rfl rfl (Nat.le_of_ble_eq_true rfl) (Nat.le_of_ble_eq_true rfl) ((WdAt.b).L0 hT (by decide)) (c_X10_open hT (Or.inr rfl) he (by rw [hT9]; exact hb)) ?_
  rw [hT9]
  refine z_al0 eX4_readText_21 hne ?_
  first | refine z_ta0 lX4_12 eX4_readText_22 rfl hT hA (by decide) rfl rfl ?_ | refine z_ta lX4_12 eX4_readText_22 rfl hT hA ⟨by decide, by decide⟩ rfl rfl ?_
  refine z_V0 eX4_readText_25 vX4_31 rfl rfl (Nat.le_of_ble_eq_true rfl) (Nat.le_of_ble_eq_true rfl) ((WdAt.b).L0 hT (by decide)) (c_X10_atEnd hT hX ⟨by omega, by omega⟩) ?_
  refine z_ifb_eq (tgt := 33) eX4_readText_28 rfl (fun h28 => ?_) (fun h28 => ?_)
  · refine z_iconst eX4_readText_33 ?_
    refine z_is3 eX4_readText_34 (Nat.ne_of_beq_eq_false rfl) ?_
    have hlt : qscan qbl T e 0 < e := Classical.byContradiction h28
    exact c_lawLoop (A := qAF T e) (R := qRF T e) (C9 := C1) hT hL hX hd0 hS (fun _ => rfl) (qRF_i T e) hgood hbad 13 0 0 C1 (fun _ => (0, 0, 0)) _ _ _ (Nat.ne_of_beq_eq_false rfl) (Nat.ne_of_beq_eq_false rfl) (by decide) (by decide) ⟨by decide, by omega⟩ (by omega) (fun _ _ => rfl) hI (fun F => by rw [hR0 F, if_pos hlt]; exact qLawN_sk.symm)
  · refine z_iconst eX4_readText_31 ?_
    refine z_zreturn eX4_readText_32 rfl (by first | exact Or.inl rfl | exact Or.inr rfl | exact zbi_01 _ | assumption | omega) ?_
    have hR3 : ∀ F, qRF T e F = (0, (0, 0, 0), qscan qbl T e 0, -1) := fun F => by rw [hR0 F, if_neg h28]
    exact hgood _ _ (by rw [hR3]) (fun _ _ => rfl) (by simp only [hR3]; exact hI)
theorem c_X4_readText {G : zG} {lay : zLay} {σ C0 : zMem} {nx x e : Int} {T : Int → Int} (hT : TopL lay x) (hS : TxS lay C0) (hxn : x + 313 ≤ nx) (he : 0 ≤ e ∧ e ≤ 400) (hTT : σ 1 = T) (hb : ∀ i, 0 ≤ i → i < 400 → 0 ≤ T i ∧ T i ≤ 255) : zMM G 61 KX4_readText [zP (x + 294), zP (x + (0 + 1)), zI e] lay (tC x σ C0) nx (6, 467) (fun r l c m => ∃ s C, r = .inl (some (zI (zbi ((qLawP T e).2 = -1)))) ∧ c = tC x s C ∧ m = nx + 6 ∧ (∀ o, o < nx → l o = lay o) ∧ (∀ o, o < nx → C o = C0 o) ∧ s 295 0 = (qLawP T e).2 ∧ (∀ i, i ≠ 295 → i ≠ 294 → s i = σ i) ∧ s 294 1 = nx ∧ ((qLawP T e).2 = -1 → LwA l x nx e ∧ zLI e nx C (qLawP T e).1 (fun F => (qRF T e F).2.1))) := by
  refine z_met' (L := [zP (x + 294), zP (x + (0 + 1)), zI e, zU, zU, zU]) gX4_readText.1 rfl rfl (Nat.le_of_ble_eq_true rfl) rfl ?_
  have hA := LxAt
  have hx := hT.1
  have hne : x + 294 ≠ -1 := by omega
  refine z_al0 eX4_readText_0 hne ?_
  refine zW.mono (b' := (5 + 1, 460 + 7)) ⟨by decide, by decide⟩ ?_
  refine z_new (ci := 3) (N := 7) (r := (RX3, TX3, 7)) eX4_readText_1 rfl rfl nX4_18.1 nX4_18.2.1 nX4_18.2.2 ?_
  refine z_dup eX4_readText_4 (Nat.ne_of_beq_eq_false rfl) ?_
  refine z_il2 eX4_readText_5 ?_
  refine zW.mono (b' := (5 + 0, 460 + 0)) ⟨by decide, by decide⟩ ?_
  refine z_I1q (b' := (5, 460)) (b'' := (0, 0)) eX4_readText_6 vX4_20 rfl (Nat.le_of_ble_eq_true rfl) (Nat.le_of_ble_eq_true rfl) (by omega) (c_X3_init (zlay_s _ _ _ _) ⟨by omega, by omega⟩ he) ?_ (fun E l c m q => by cases q.1)
  intro r l c m hq
  obtain ⟨hr, ⟨z1, ⟨z2, z3, z4, z5, z6⟩, z7, z8⟩, hm⟩ := hq
  cases hr
  show zW _ _ _ _ _ _ [zP nx, zP (x + 294)] _ _ _ _
  obtain ⟨C1, hC1⟩ : ∃ C1 : zMem, (fun o => if o < nx then C0 o else c o) = C1 := ⟨_, rfl⟩
  have g1 : ∀ o, o < nx → C1 o = C0 o := fun o ho => by rw [← hC1]; exact if_pos ho
  have g2 : ∀ o, ¬ o < nx → C1 o = c o := fun o ho => by rw [← hC1]; exact if_neg ho
  have hlay : ∀ o, o < nx → l o = lay o := fun o ho => by rw [z1 o (by omega), zlay_o (by omega)]
  have hc : c = tC x σ C1 := by
    funext o
    by_cases ho : o < nx
    · rw [z7 o (by omega) (by omega), zborn_o (by omega)]
      funext j
      by_cases hi : inT (o - x)
      · unfold tC
        rw [zif_t hi, zif_t hi]
      · rw [tC_out hi, tC_out hi, g1 o ho]
    · funext j
      rw [tC_out (by unfold inT; omega), g2 o ho]
  have hTl : TopL l x := ⟨hT.1, fun i hi => by rw [hlay _ (by unfold inT at hi; omega)]; exact hT.2 i hi⟩
  have hl0 : l nx = (4, 7) := by rw [z1 nx (by omega)]; exact zlay_s _ _ _ _
  have e2 : nx + 1 + 1 = nx + 2 := by omega
  have e3 : nx + 1 + 2 = nx + 3 := by omega
  have e4 : nx + 1 + 3 = nx + 4 := by omega
  have e5 : nx + 1 + 4 = nx + 5 := by omega
  rw [e2] at z3 z8
  rw [e3] at z4 z8
  rw [e4] at z5 z8
  rw [e5] at z6 z8
  have hL : LwA l x nx e := ⟨by omega, by unfold inT; omega, by unfold inT; omega, by unfold inT; omega, by unfold inT; omega, by unfold inT; omega, by unfold inT; omega, hl0, z2, z3, z4, z5, z6, he⟩
  have hF : LwF C1 nx := by
    unfold LwF
    rw [g2 nx (by omega)]
    exact ⟨z8.2.1, z8.2.2.1, z8.2.2.2.1, z8.2.2.2.2.2.1, z8.2.2.2.2.2.2⟩
  have hn0 : C1 nx 0 = 0 := by rw [g2 nx (by omega), z8.1]; unfold zborn; rw [if_pos rfl]; rfl
  have hn4 : C1 nx 4 = 0 := by rw [g2 nx (by omega), z8.2.2.2.2.1]; unfold zborn; rw [if_pos rfl]; rfl
  have hSl : TxS l C1 := fun t q hq => by
    obtain ⟨a, b, d⟩ := hS t q hq
    exact ⟨by rw [hlay _ (by omega)]; exact a, by rw [hlay _ (by omega)]; exact b, fun i hi => by rw [g1 _ (by omega)]; exact d i hi⟩
  rw [hc]
  refine c_readText2 hTl hL hF hn0 hn4 hSl he hTT hb ?_ ?_
  · intro a C h1 h2 h3
    refine ⟨_, C, by rw [zbi_t (show (qLawP T e).2 = -1 by rw [qRF_P]; exact h1)], rfl, by omega, hlay, fun o ho => (h2 o ho).trans (g1 o ho), by rw [zTk_0, qRF_P]; exact h1.symm, fun i i1 i2 => by rw [zTk_o i1, zOpn_o i1, zset_o i2], by rw [zTk_o (by decide), zOpn_o (by decide), zset_eq], fun _ => ⟨hL, by rw [qRF_P]; exact h3⟩⟩
  · intro q C h1 h2 h3 h4
    refine ⟨q, C, by rw [zbi_f (show ¬ (qLawP T e).2 = -1 by rw [qRF_P]; exact h1)], rfl, by omega, hlay, fun o ho => (h4 o ho).trans (g1 o ho), by rw [qRF_P]; exact h2, fun i i1 i2 => by rw [h3 i i1, zOpn_o i1, zset_o i2], by rw [h3 _ (by decide), zOpn_o (by decide), zset_eq], fun z => absurd (by rw [qRF_P] at z; exact z) h1⟩
