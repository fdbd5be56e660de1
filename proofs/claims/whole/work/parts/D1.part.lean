/-! A text of the law: facts and parts. -/
/-- of the rest only the law's steps are more -/
def zKC (p e : Int) (C C' : zMem) : Prop := (∀ o, o ≠ p → o ≠ p + 4 → C' o = C o) ∧ (∀ j, j ≠ 4 → C' p j = C p j) ∧ (∀ j, j < C p 4 → C' (p + 4) j = C (p + 4) j) ∧ C p 4 ≤ C' p 4 ∧ C' p 4 ≤ e
theorem zKC.refl {p e : Int} {C : zMem} (h : C p 4 ≤ e) : zKC p e C C := ⟨fun _ _ _ => rfl, fun _ _ => rfl, fun _ _ => rfl, Int.le_refl _, h⟩
theorem zKC.trans {p e : Int} {C C' D : zMem} (h : zKC p e C C') (k : zKC p e C' D) : zKC p e C D := by
  have h4 := h.2.2.2.1
  exact ⟨fun o a b => (k.1 o a b).trans (h.1 o a b), fun j hj => (k.2.1 j hj).trans (h.2.1 j hj), fun j hj => (k.2.2.1 j (by omega)).trans (h.2.2.1 j hj), by have := k.2.2.2.1; omega, k.2.2.2.2⟩
/-- a step more -/
def zStp (C : zMem) (p v : Int) : zMem := zset (zset C (p + 4) (C p 4) v) p 4 (C p 4 + 1)
theorem zStp.k {C : zMem} {p e v : Int} (h : C p 4 < e) : zKC p e C (zStp C p v) := by
  unfold zStp
  refine ⟨fun o a b => by rw [zset_o a, zset_o b], fun j hj => by rw [zset_f hj, zset_o (by omega)], fun j hj => by rw [zset_o (by omega), zset_f (by omega)], by rw [zset_eq]; omega, by rw [zset_eq]; omega⟩
theorem zStp.n {C : zMem} {p v : Int} : zStp C p v p 4 = C p 4 + 1 := by unfold zStp; rw [zset_eq]
theorem zStp.v {C : zMem} {p v : Int} : zStp C p v (p + 4) (C p 4) = v := by unfold zStp; rw [zset_o (by omega), zset_eq]
theorem zStp.o {C : zMem} {p v j : Int} (h : j ≠ C p 4) : zStp C p v (p + 4) j = C (p + 4) j := by unfold zStp; rw [zset_o (by omega), zset_f h]
theorem zKC.F {p e : Int} {C C' : zMem} (h : zKC p e C C') (hF : LwF C p) : LwF C' p := ⟨(h.2.1 1 (by decide)).trans hF.f1, (h.2.1 2 (by decide)).trans hF.f2, (h.2.1 3 (by decide)).trans hF.f3, (h.2.1 5 (by decide)).trans hF.f5, (h.2.1 6 (by decide)).trans hF.f6⟩
theorem zKC.S {p e : Int} {C C' : zMem} {lay : zLay} (h : zKC p e C C') (hp : 0 ≤ p) (hS : TxS lay C) : TxS lay C' := fun t q hq => by
  obtain ⟨a, b, c⟩ := hS t q hq
  exact ⟨a, b, fun i hi => by rw [h.1 _ (by omega) (by omega)]; exact c i hi⟩
/-- what reading a thing of a condition leaves, whose value, place and fault B tells -/
def zLd (s : zMem) (T : Int → Int) (e p : Int) (C : zMem) (a tb : Int) (B : (Int → Int) → Int × Int × Int) (q C' : zMem) : Prop :=
  zKC p e C C' ∧ ((B qFz).2.2 = -1 → q = zTk s 295 T e (B qFz).2.1 (-1) ∧ ∃ m : Nat, (m : Int) ≤ (B qFz).2.1 - a ∧ C' p 4 = C p 4 + m ∧ qCode (C' (p + 4)) (C p 4) m tb (fun F => (B F).1)) ∧ ((B qFz).2.2 ≠ -1 → q 295 0 = (B qFz).2.2 ∧ ∀ i, i ≠ 295 → q i = s i)
theorem zLdf {lay : zLay} {s C0 C : zMem} {nx x e p a a' tb f : Int} {T : Int → Int} {B : (Int → Int) → Int × Int × Int} (h : (B qFz).2.2 = f) (hf : 0 ≤ f) (hk : zKC p e C0 C) : zY' (some (zI (zbi ((B qFz).2.2 = -1)))) (zLd s T e p C0 a tb B) lay nx x (.inl (some (zI 0))) lay (tC x (zTk s 295 T e a' f) C) nx :=
  zYe ⟨hk, fun z => absurd (h ▸ z) (by omega), fun _ => ⟨by rw [zTk_0, h], fun i i1 => zTk_o i1⟩⟩ (zbi_f (by rw [h]; omega)).symm
theorem zLdt {lay : zLay} {s C0 C : zMem} {nx x e p a a' tb : Int} {m : Nat} {T : Int → Int} {B : (Int → Int) → Int × Int × Int} (h : (B qFz).2.2 = -1) (h1 : qscan qbl T e (B qFz).2.1 = qscan qbl T e a') (hk : zKC p e C0 C) (hm : (m : Int) ≤ (B qFz).2.1 - a) (h4 : C p 4 = C0 p 4 + m) (hc : qCode (C (p + 4)) (C0 p 4) m tb (fun F => (B F).1)) : zY' (some (zI (zbi ((B qFz).2.2 = -1)))) (zLd s T e p C0 a tb B) lay nx x (.inl (some (zI 1))) lay (tC x (zTk s 295 T e a' (-1)) C) nx :=
  zYe ⟨hk, fun _ => ⟨(zTk_sk h1).symm, m, hm, h4, hc⟩, fun z => absurd h z⟩ (zbi_t h).symm
theorem c_X4_takeFact {G : zG} {lay : zLay} {s C0 : zMem} {nx x e a p n f : Int} {T : Int → Int} {t : Nat} {wd : List Int} (hT : TopL lay x) (hX : TxC x s 295 T e) (ha : 0 ≤ a ∧ a ≤ e) (hL : LwA lay x p e) (hF : LwF C0 p) (hd : s 294 1 = p) (hl : 0 ≤ C0 p 4 ∧ C0 p 4 ≤ a) (hS : TxS lay C0) (hq : (zStr[t]?).map (fun q => q.2.2.2) = some wd) (hn : (wd.length : Int) = n) (hn1 : 1 ≤ n) (hf : 0 ≤ f ∧ f ≤ 9) : zMM G 8 KX4_takeFact [zP (x + 294), zP (-10 - (t : Int)), zI f] lay (tC x (zTk s 295 T e a (-1)) C0) nx (0, 0) (zR (some (zI (zbi (qhas T e (qscan qbl T e a) wd)))) lay (tC x (zTk s 295 T e (zif (qhas T e (qscan qbl T e a) wd) (qscan qbl T e a + n) a) (-1)) (zif (qhas T e (qscan qbl T e a) wd) (zStp C0 p (1000 + f)) C0)) nx) := by
  refine z_met' (L := [zP (x + 294), zP (-10 - (t : Int)), zI f]) gX4_takeFact.1 rfl rfl (Nat.le_of_ble_eq_true rfl) rfl ?_
  have hA := LxAt
  have hx := hT.1
  have hne : x + 294 ≠ -1 := by omega
  have hp0 := hL.p0
  have hpn : p ≠ -1 := by omega
  have hbd := qskip_bd (T := T) ha.2
  refine z_al0 eX4_takeFact_0 hne ?_
  first | refine z_ta0 lX4_12 eX4_takeFact_1 rfl hT hA (by decide) rfl rfl ?_ | refine z_ta lX4_12 eX4_takeFact_1 rfl hT hA ⟨by decide, by decide⟩ rfl rfl ?_
  first | rw [zTk_o (by decide), hd] | skip
  refine z_al1 eX4_takeFact_4 (by omega) ?_
  refine z_V1 eX4_takeFact_5 vX4_45 rfl rfl (Nat.le_of_ble_eq_true rfl) (Nat.le_of_ble_eq_true rfl) ((WdAt.b).L0 hT (by decide)) (c_X10_takeWord hT hX ha hS hq hn hn1) ?_
  first | rw [zTk_o (by decide), hd] | skip
  refine z_ifk_ne (tgt := 13) eX4_takeFact_8 rfl (fun h8 => ?_) (fun h8 => ?_)
  · refine z_al0 eX4_takeFact_13 hne ?_
    first | refine z_td0 (j := 1) lX4_23 eX4_takeFact_14 rfl hT hA (by decide) rfl rfl rfl ?_ | refine z_td (j := 1) lX4_23 eX4_takeFact_14 rfl hT hA ⟨by decide, by decide⟩ rfl rfl rfl ?_
    first | rw [zTk_o (by decide), hd] | skip
    have hs9 := qhas_stop h8 hn hn1 hbd.2
    refine z_sipush eX4_takeFact_17 (by decide) ?_
    refine z_il2 eX4_takeFact_20 ?_
    refine z_iadd eX4_takeFact_21 ?_
    refine z_V1v eX4_takeFact_22 vX4_76 rfl rfl (Nat.le_of_ble_eq_true rfl) (Nat.le_of_ble_eq_true rfl) hL.l0 (c_X3_addStep hT hL hF ⟨hl.1, by omega⟩) ?_
    first | rw [zTk_o (by decide), hd] | skip
    refine z_iconst eX4_takeFact_25 ?_
    refine z_zreturn eX4_takeFact_26 rfl (by first | exact Or.inl rfl | exact Or.inr rfl | exact zbi_01 _ | assumption | omega) ?_
    rw [zif_t h8, zif_t h8, zbi_t h8]; exact ⟨rfl, rfl, rfl, rfl⟩
  · refine z_iconst eX4_takeFact_11 ?_
    refine z_zreturn eX4_takeFact_12 rfl (by first | exact Or.inl rfl | exact Or.inr rfl | exact zbi_01 _ | assumption | omega) ?_
    rw [zif_f h8, zif_f h8, zbi_f h8]; exact ⟨rfl, rfl, rfl, rfl⟩
section ZTKF
variable {G : zG} {k : zK} {D pc pc' idx : Nat} {Q : zQ} {L st : List zAV} {lay : zLay} {s C0 : zMem} {nx x e a p n f : Int} {T : Int → Int} {bb : Nat × Nat} {own : String} {t : Nat} {wd : List Int}
theorem z_tkf (hd9 : zD k pc (.invokevirtual idx) 3 pc') (hf9 : zVc own idx KX4_takeFact 2 4) (hw : own = k.1.cls) (hk : k.2.2.2.2 = []) (hD : 8 + 1 ≤ D) (hst : st.length ≤ 4) (hT : TopL lay x) (hX : TxC x s 295 T e) (ha : 0 ≤ a ∧ a ≤ e) (hL : LwA lay x p e) (hF : LwF C0 p) (hd : s 294 1 = p) (hl : 0 ≤ C0 p 4 ∧ C0 p 4 ≤ a) (hS : TxS lay C0) (hq : (zStr[t]?).map (fun q => q.2.2.2) = some wd) (hn : (wd.length : Int) = n) (hn1 : 1 ≤ n) (hf : 0 ≤ f ∧ f ≤ 9)
    (wt : qhas T e (qscan qbl T e a) wd → zW G k D Q pc' L (zI 1 :: st) lay (tC x (zTk s 295 T e (qscan qbl T e a + n) (-1)) (zStp C0 p (1000 + f))) nx bb)
    (wf : ¬ qhas T e (qscan qbl T e a) wd → zW G k D Q pc' L (zI 0 :: st) lay (tC x (zTk s 295 T e a (-1)) C0) nx bb) : zW G k D Q pc L (zI f :: zP (-10 - (t : Int)) :: zP (x + 294) :: st) lay (tC x (zTk s 295 T e a (-1)) C0) nx bb := by
  refine z_V2 hd9 hf9 hw hk hD hst ((LxAt).L0 hT (by decide)) (c_X4_takeFact hT hX ha hL hF hd hl hS hq hn hn1 hf) ?_
  by_cases h : qhas T e (qscan qbl T e a) wd
  · rw [zif_t h, zif_t h, zbi_t h]; exact wt h
  · rw [zif_f h, zif_f h, zbi_f h]; exact wf h
end ZTKF
theorem qFig_gt {T : Int → Int} {e lo hi a : Int} (h : (qFig T e lo hi a (-1)).2.2 = -1) (ha : 0 ≤ a ∧ a ≤ e) (he : e ≤ 400) (hT : ∀ k, 0 ≤ k → k < 400 → 0 ≤ T k) : qscan qbl T e a < (qFig T e lo hi a (-1)).2.1 := by
  have hsk := qskip_bd (T := T) ha.2
  have hb := qfgN_bd (T := T) (e := e) 4 (qscan qbl T e a) 0 (by decide) hsk.2 (by decide) (by decide) (fun k k0 k1 => hT k (by omega) (by omega))
  unfold qFig at h ⊢
  rw [if_pos rfl] at h ⊢
  dsimp only at h ⊢
  by_cases c : (qfgN T e 4 (qscan qbl T e a) 0).2 = qscan qbl T e a
  · rw [if_pos (Or.inl c)] at h
    omega
  · omega
theorem c_X4_readPart {G : zG} {lay : zLay} {s C0 : zMem} {nx x e a p : Int} {T : Int → Int} (hT : TopL lay x) (hX : TxC x s 295 T e) (ha : 0 ≤ a ∧ a ≤ e) (hL : LwA lay x p e) (hF : LwF C0 p) (hd : s 294 1 = p) (hl : 0 ≤ C0 p 4 ∧ C0 p 4 ≤ a) (hS : TxS lay C0)  : zMM G 7 KX4_readPart [zP (x + 294)] lay (tC x (zTk s 295 T e a (-1)) C0) nx (0, 0) (zY' (some (zI (zbi (((fun F => qPart T e F a (-1)) qFz).2.2 = -1)))) (zLd s T e p C0 a (23) (fun F => qPart T e F a (-1))) lay nx x) := by
  refine z_met' (L := [zP (x + 294), zU]) gX4_readPart.1 rfl rfl (Nat.le_of_ble_eq_true rfl) rfl ?_
  have hA := LxAt
  have hx := hT.1
  have hne : x + 294 ≠ -1 := by omega
  have he := hX.e0
  have hp0 := hL.p0
  have hpn : p ≠ -1 := by omega
  have hbd := qskip_bd (T := T) ha.2
  obtain ⟨Q, hQ⟩ : ∃ Q, zY' (some (zI (zbi (((fun F => qPart T e F a (-1)) qFz).2.2 = -1)))) (zLd s T e p C0 a 23 (fun F => qPart T e F a (-1))) lay nx x = Q := ⟨_, rfl⟩
  have hT0 : ∀ k, 0 ≤ k → k < 400 → 0 ≤ T k := fun k k0 k1 => (hX.bt k k0 k1).1
  have hdg : (qscan qbl T e a < e ∧ qdig (T (qscan qbl T e a)) = true) ↔ (qscan qbl T e a < e ∧ 48 ≤ T (qscan qbl T e a) ∧ T (qscan qbl T e a) ≤ 57) := by unfold qdig; rw [decide_eq_true_iff]
  have w171 : ∀ (k n : Int) (wd : List Int), qhas T e (qscan qbl T e a) wd → (wd.length : Int) = n → 1 ≤ n → 0 ≤ k ∧ k ≤ 6 → (∀ F, qPart T e F a (-1) = (F k, qscan qbl T e a + n, -1)) → zW G KX4_readPart 7 Q 171 [zP (x + 294), zI k] [] lay (tC x (zTk s 295 T e a (-1)) C0) nx (0, 0) := by
    intro k n wd h1 h2 h3 h4 h5
    have hs := qhas_stop h1 h2 h3 hbd.2
    rw [← hQ]
    refine z_al0 eX4_readPart_171 hne ?_
    first | refine z_td0 (j := 1) lX4_23 eX4_readPart_172 rfl hT hA (by decide) rfl rfl rfl ?_ | refine z_td (j := 1) lX4_23 eX4_readPart_172 rfl hT hA ⟨by decide, by decide⟩ rfl rfl rfl ?_
    first | rw [zTk_o (by decide), hd] | skip
    refine z_sipush eX4_readPart_175 (by decide) ?_
    refine z_il1 eX4_readPart_178 ?_
    refine z_iadd eX4_readPart_179 ?_
    refine z_V1v eX4_readPart_180 vX4_76 rfl rfl (Nat.le_of_ble_eq_true rfl) (Nat.le_of_ble_eq_true rfl) hL.l0 (c_X3_addStep hT hL hF ⟨hl.1, by omega⟩) ?_
    first | rw [zTk_o (by decide), hd] | skip
    refine z_al0 eX4_readPart_183 hne ?_
    first | refine z_ta0 lX4_12 eX4_readPart_184 rfl hT hA (by decide) rfl rfl ?_ | refine z_ta lX4_12 eX4_readPart_184 rfl hT hA ⟨by decide, by decide⟩ rfl rfl ?_
    first | rw [zTk_o (by decide), hd] | skip
    refine z_V0v eX4_readPart_187 vX4_127 rfl rfl (Nat.le_of_ble_eq_true rfl) (Nat.le_of_ble_eq_true rfl) ((WdAt.b).L0 hT (by decide)) (c_X10_advance hT hX (s := qStop T e (qscan qbl T e a)) ⟨by omega, by omega⟩) ?_
    first | rw [zTk_o (by decide), hd] | skip
    rw [hs.2.2.1]
    refine z_iconst eX4_readPart_190 ?_
    refine z_zreturn eX4_readPart_191 rfl (by first | exact Or.inl rfl | exact Or.inr rfl | exact zbi_01 _ | assumption | omega) ?_
    exact zLdt (B := fun F => qPart T e F a (-1)) (tb := 23) (m := 1) (C := zStp C0 p (1000 + k)) (by rw [h5]) (by rw [h5]) (zStp.k (by omega)) (by rw [h5]; dsimp only; omega) zStp.n (by have z := qCode.fact (f := k) (zStp.v (C := C0) (p := p) (v := 1000 + k)) ⟨by omega, by omega⟩; simp only [h5]; exact z)
  have hw : ¬ (qscan qbl T e a < e ∧ qdig (T (qscan qbl T e a)) = true) → ∀ F, qPart T e F a (-1) = qPartW T e F (qscan qbl T e a) := fun z F => by unfold qPart; rw [if_pos rfl, if_neg (fun q => z (hdg.mpr q))]
  rw [hQ]
  refine z_al0 eX4_readPart_0 hne ?_
  first | refine z_ta0 lX4_12 eX4_readPart_1 rfl hT hA (by decide) rfl rfl ?_ | refine z_ta lX4_12 eX4_readPart_1 rfl hT hA ⟨by decide, by decide⟩ rfl rfl ?_
  first | rw [zTk_o (by decide), hd] | skip
  refine z_V0 eX4_readPart_4 vX4_110 rfl rfl (Nat.le_of_ble_eq_true rfl) (Nat.le_of_ble_eq_true rfl) ((WdAt.b).L0 hT (by decide)) (c_X10_atDigits hT hX ⟨by omega, by omega⟩) ?_
  first | rw [zTk_o (by decide), hd] | skip
  refine z_ifb_eq (tgt := 41) eX4_readPart_7 rfl (fun h7 => ?_) (fun h7 => ?_)
  · refine z_iconst eX4_readPart_41 ?_
    refine z_is1 eX4_readPart_42 (Nat.ne_of_beq_eq_false rfl) ?_
    refine z_al0 eX4_readPart_43 hne ?_
    first | refine z_ta0 lX4_12 eX4_readPart_44 rfl hT hA (by decide) rfl rfl ?_ | refine z_ta lX4_12 eX4_readPart_44 rfl hT hA ⟨by decide, by decide⟩ rfl rfl ?_
    first | rw [zTk_o (by decide), hd] | skip
    refine z_ldcS (t := 35) eX4_readPart_47 rfl rfl rfl (by rw [(hS 35 _ rfl).1]) ?_
    refine z_V1 eX4_readPart_49 vX4_85 rfl rfl (Nat.le_of_ble_eq_true rfl) (Nat.le_of_ble_eq_true rfl) ((WdAt.b).L0 hT (by decide)) (c_X10_atWord hT hX ⟨by omega, by omega⟩ hS (t := 35) (wd := qw_member) (n := 6) rfl rfl (by decide)) ?_
    first | rw [zTk_o (by decide), hd] | skip
    refine z_ifb_eq (tgt := 60) eX4_readPart_52 rfl (fun h52 => ?_) (fun h52 => ?_)
    · refine z_al0 eX4_readPart_60 hne ?_
      first | refine z_ta0 lX4_12 eX4_readPart_61 rfl hT hA (by decide) rfl rfl ?_ | refine z_ta lX4_12 eX4_readPart_61 rfl hT hA ⟨by decide, by decide⟩ rfl rfl ?_
      first | rw [zTk_o (by decide), hd] | skip
      refine z_ldcS (t := 36) eX4_readPart_64 rfl rfl rfl (by rw [(hS 36 _ rfl).1]) ?_
      refine z_V1 eX4_readPart_66 vX4_85 rfl rfl (Nat.le_of_ble_eq_true rfl) (Nat.le_of_ble_eq_true rfl) ((WdAt.b).L0 hT (by decide)) (c_X10_atWord hT hX ⟨by omega, by omega⟩ hS (t := 36) (wd := qw_exposed) (n := 7) rfl rfl (by decide)) ?_
      first | rw [zTk_o (by decide), hd] | skip
      refine z_ifb_eq (tgt := 77) eX4_readPart_69 rfl (fun h69 => ?_) (fun h69 => ?_)
      · refine z_al0 eX4_readPart_77 hne ?_
        first | refine z_ta0 lX4_12 eX4_readPart_78 rfl hT hA (by decide) rfl rfl ?_ | refine z_ta lX4_12 eX4_readPart_78 rfl hT hA ⟨by decide, by decide⟩ rfl rfl ?_
        first | rw [zTk_o (by decide), hd] | skip
        refine z_ldcS (t := 37) eX4_readPart_81 rfl rfl rfl (by rw [(hS 37 _ rfl).1]) ?_
        refine z_V1 eX4_readPart_83 vX4_85 rfl rfl (Nat.le_of_ble_eq_true rfl) (Nat.le_of_ble_eq_true rfl) ((WdAt.b).L0 hT (by decide)) (c_X10_atWord hT hX ⟨by omega, by omega⟩ hS (t := 37) (wd := qw_seats) (n := 5) rfl rfl (by decide)) ?_
        first | rw [zTk_o (by decide), hd] | skip
        refine z_ifb_eq (tgt := 94) eX4_readPart_86 rfl (fun h86 => ?_) (fun h86 => ?_)
        · refine z_al0 eX4_readPart_94 hne ?_
          first | refine z_ta0 lX4_12 eX4_readPart_95 rfl hT hA (by decide) rfl rfl ?_ | refine z_ta lX4_12 eX4_readPart_95 rfl hT hA ⟨by decide, by decide⟩ rfl rfl ?_
          first | rw [zTk_o (by decide), hd] | skip
          refine z_ldcS (t := 38) eX4_readPart_98 rfl rfl rfl (by rw [(hS 38 _ rfl).1]) ?_
          refine z_V1 eX4_readPart_100 vX4_85 rfl rfl (Nat.le_of_ble_eq_true rfl) (Nat.le_of_ble_eq_true rfl) ((WdAt.b).L0 hT (by decide)) (c_X10_atWord hT hX ⟨by omega, by omega⟩ hS (t := 38) (wd := qw_sky) (n := 3) rfl rfl (by decide)) ?_
          first | rw [zTk_o (by decide), hd] | skip
          refine z_ifb_eq (tgt := 111) eX4_readPart_103 rfl (fun h103 => ?_) (fun h103 => ?_)
          · refine z_al0 eX4_readPart_111 hne ?_
            first | refine z_ta0 lX4_12 eX4_readPart_112 rfl hT hA (by decide) rfl rfl ?_ | refine z_ta lX4_12 eX4_readPart_112 rfl hT hA ⟨by decide, by decide⟩ rfl rfl ?_
            first | rw [zTk_o (by decide), hd] | skip
            refine z_ldcS (t := 39) eX4_readPart_115 rfl rfl rfl (by rw [(hS 39 _ rfl).1]) ?_
            refine z_V1 eX4_readPart_117 vX4_85 rfl rfl (Nat.le_of_ble_eq_true rfl) (Nat.le_of_ble_eq_true rfl) ((WdAt.b).L0 hT (by decide)) (c_X10_atWord hT hX ⟨by omega, by omega⟩ hS (t := 39) (wd := qw_hour) (n := 4) rfl rfl (by decide)) ?_
            first | rw [zTk_o (by decide), hd] | skip
            refine z_ifb_eq (tgt := 128) eX4_readPart_120 rfl (fun h120 => ?_) (fun h120 => ?_)
            · refine z_al0 eX4_readPart_128 hne ?_
              first | refine z_ta0 lX4_12 eX4_readPart_129 rfl hT hA (by decide) rfl rfl ?_ | refine z_ta lX4_12 eX4_readPart_129 rfl hT hA ⟨by decide, by decide⟩ rfl rfl ?_
              first | rw [zTk_o (by decide), hd] | skip
              refine z_ldcS (t := 40) eX4_readPart_132 rfl rfl rfl (by rw [(hS 40 _ rfl).1]) ?_
              refine z_V1 eX4_readPart_134 vX4_85 rfl rfl (Nat.le_of_ble_eq_true rfl) (Nat.le_of_ble_eq_true rfl) ((WdAt.b).L0 hT (by decide)) (c_X10_atWord hT hX ⟨by omega, by omega⟩ hS (t := 40) (wd := qw_motion) (n := 6) rfl rfl (by decide)) ?_
              first | rw [zTk_o (by decide), hd] | skip
              refine z_ifb_eq (tgt := 145) eX4_readPart_137 rfl (fun h137 => ?_) (fun h137 => ?_)
              · refine z_al0 eX4_readPart_145 hne ?_
                first | refine z_ta0 lX4_12 eX4_readPart_146 rfl hT hA (by decide) rfl rfl ?_ | refine z_ta lX4_12 eX4_readPart_146 rfl hT hA ⟨by decide, by decide⟩ rfl rfl ?_
                first | rw [zTk_o (by decide), hd] | skip
                refine z_ldcS (t := 41) eX4_readPart_149 rfl rfl rfl (by rw [(hS 41 _ rfl).1]) ?_
                refine z_V1 eX4_readPart_151 vX4_85 rfl rfl (Nat.le_of_ble_eq_true rfl) (Nat.le_of_ble_eq_true rfl) ((WdAt.b).L0 hT (by decide)) (c_X10_atWord hT hX ⟨by omega, by omega⟩ hS (t := 41) (wd := qw_worth) (n := 5) rfl rfl (by decide)) ?_
                first | rw [zTk_o (by decide), hd] | skip
                refine z_ifb_eq (tgt := 163) eX4_readPart_154 rfl (fun h154 => ?_) (fun h154 => ?_)
                · refine z_al0 eX4_readPart_163 hne ?_
                  first | refine z_ta0 lX4_12 eX4_readPart_164 rfl hT hA (by decide) rfl rfl ?_ | refine z_ta lX4_12 eX4_readPart_164 rfl hT hA ⟨by decide, by decide⟩ rfl rfl ?_
                  first | rw [zTk_o (by decide), hd] | skip
                  refine z_V0 eX4_readPart_167 vX4_61 rfl rfl (Nat.le_of_ble_eq_true rfl) (Nat.le_of_ble_eq_true rfl) ((WdAt.b).L0 hT (by decide)) (c_X10_fail hT hX ⟨by omega, by omega⟩ (by decide)) ?_
                  rw [if_pos rfl]
                  first | rw [zTk_o (by decide), hd] | skip
                  refine z_zreturn eX4_readPart_170 rfl (by first | exact Or.inl rfl | exact Or.inr rfl | exact zbi_01 _ | assumption | omega) ?_
                  rw [← hQ]
                  exact zLdf (B := fun F => qPart T e F a (-1)) (C := C0) (by rw [hw h7]; unfold qPartW; rw [zif_f h52, zif_f h69, zif_f h86, zif_f h103, zif_f h120, zif_f h137, zif_f h154]) (by omega) (zKC.refl (by omega))
                · have hq9 := w171 6 5 qw_worth h154 rfl (by decide) (by decide) (fun F => by rw [hw h7 F]; unfold qPartW; rw [zif_f h52, zif_f h69, zif_f h86, zif_f h103, zif_f h120, zif_f h137, zif_t h154])
                  refine z_bipush eX4_readPart_157 (by decide) ?_
                  refine z_is1 eX4_readPart_159 (Nat.ne_of_beq_eq_false rfl) ?_
                  refine z_goto eX4_readPart_160 (tgt := 171) rfl ?_
                  exact hq9
              · have hq9 := w171 5 6 qw_motion h137 rfl (by decide) (by decide) (fun F => by rw [hw h7 F]; unfold qPartW; rw [zif_f h52, zif_f h69, zif_f h86, zif_f h103, zif_f h120, zif_t h137])
                refine z_iconst eX4_readPart_140 ?_
                refine z_is1 eX4_readPart_141 (Nat.ne_of_beq_eq_false rfl) ?_
                refine z_goto eX4_readPart_142 (tgt := 171) rfl ?_
                exact hq9
            · have hq9 := w171 4 4 qw_hour h120 rfl (by decide) (by decide) (fun F => by rw [hw h7 F]; unfold qPartW; rw [zif_f h52, zif_f h69, zif_f h86, zif_f h103, zif_t h120])
              refine z_iconst eX4_readPart_123 ?_
              refine z_is1 eX4_readPart_124 (Nat.ne_of_beq_eq_false rfl) ?_
              refine z_goto eX4_readPart_125 (tgt := 171) rfl ?_
              exact hq9
          · have hq9 := w171 3 3 qw_sky h103 rfl (by decide) (by decide) (fun F => by rw [hw h7 F]; unfold qPartW; rw [zif_f h52, zif_f h69, zif_f h86, zif_t h103])
            refine z_iconst eX4_readPart_106 ?_
            refine z_is1 eX4_readPart_107 (Nat.ne_of_beq_eq_false rfl) ?_
            refine z_goto eX4_readPart_108 (tgt := 171) rfl ?_
            exact hq9
        · have hq9 := w171 2 5 qw_seats h86 rfl (by decide) (by decide) (fun F => by rw [hw h7 F]; unfold qPartW; rw [zif_f h52, zif_f h69, zif_t h86])
          refine z_iconst eX4_readPart_89 ?_
          refine z_is1 eX4_readPart_90 (Nat.ne_of_beq_eq_false rfl) ?_
          refine z_goto eX4_readPart_91 (tgt := 171) rfl ?_
          exact hq9
      · have hq9 := w171 1 7 qw_exposed h69 rfl (by decide) (by decide) (fun F => by rw [hw h7 F]; unfold qPartW; rw [zif_f h52, zif_t h69])
        refine z_iconst eX4_readPart_72 ?_
        refine z_is1 eX4_readPart_73 (Nat.ne_of_beq_eq_false rfl) ?_
        refine z_goto eX4_readPart_74 (tgt := 171) rfl ?_
        exact hq9
    · have hq9 := w171 0 6 qw_member h52 rfl (by decide) (by decide) (fun F => by rw [hw h7 F]; unfold qPartW; rw [zif_t h52])
      refine z_iconst eX4_readPart_55 ?_
      refine z_is1 eX4_readPart_56 (Nat.ne_of_beq_eq_false rfl) ?_
      refine z_goto eX4_readPart_57 (tgt := 171) rfl ?_
      exact hq9
  · refine z_al0 eX4_readPart_10 hne ?_
    first | refine z_ta0 lX4_12 eX4_readPart_11 rfl hT hA (by decide) rfl rfl ?_ | refine z_ta lX4_12 eX4_readPart_11 rfl hT hA ⟨by decide, by decide⟩ rfl rfl ?_
    first | rw [zTk_o (by decide), hd] | skip
    refine z_iconst eX4_readPart_14 ?_
    refine z_sipush eX4_readPart_15 (by decide) ?_
    refine z_tkn eX4_readPart_18 vX4_39 rfl rfl (Nat.le_of_ble_eq_true rfl) (Nat.le_of_ble_eq_true rfl) hT hX ⟨by omega, by omega⟩ ⟨by omega, by omega⟩ ⟨by omega, by omega⟩ (fun F18 hF18 hG18 hB18 hP18 => ?_) (fun F18 hF18 hG18 hB18 => ?_)
    · refine z_is1 eX4_readPart_21 (Nat.ne_of_beq_eq_false rfl) ?_
      have hP9 : ∀ F, qPart T e F a (-1) = F18 := fun F => by unfold qPart; rw [if_pos rfl, if_pos (hdg.mp h7), qFig_skip, hF18]
      have hgt := qFig_gt (by rw [hF18]; exact hG18) ha he.2 hT0
      rw [hF18] at hgt
      refine z_al0 eX4_readPart_22 hne ?_
      first | refine z_td0 (j := 1) lX4_23 eX4_readPart_23 rfl hT hA (by decide) rfl rfl rfl ?_ | refine z_td (j := 1) lX4_23 eX4_readPart_23 rfl hT hA ⟨by decide, by decide⟩ rfl rfl rfl ?_
      first | rw [zTk_o (by decide), hd] | skip
      refine z_il1 eX4_readPart_26 ?_
      refine z_V1v eX4_readPart_27 vX4_76 rfl rfl (Nat.le_of_ble_eq_true rfl) (Nat.le_of_ble_eq_true rfl) hL.l0 (c_X3_addStep hT hL hF ⟨hl.1, by have := h7.1; omega⟩) ?_
      first | rw [zTk_o (by decide), hd] | skip
      refine z_il1 eX4_readPart_30 ?_
      refine z_iconst eX4_readPart_31 ?_
      refine z_icmp_eq (tgt := 39) eX4_readPart_32 rfl ⟨⟨by omega, by omega⟩, ⟨by omega, by omega⟩⟩ (fun h32 => (by exfalso; omega)) (fun h32 => ?_)
      refine z_iconst eX4_readPart_35 ?_
      refine z_goto eX4_readPart_36 (tgt := 40) rfl ?_
      refine z_zreturn eX4_readPart_40 rfl (by first | exact Or.inl rfl | exact Or.inr rfl | exact zbi_01 _ | assumption | omega) ?_
      rw [← hQ]
      exact zLdt (B := fun F => qPart T e F a (-1)) (tb := 23) (m := 1) (C := zStp C0 p F18.1) (by rw [hP9]; exact hG18) (by rw [hP9]) (zStp.k (by have := h7.1; omega)) (by rw [hP9]; omega) zStp.n (by have z := qCode.num (op := F18.1) (zStp.v (C := C0) (p := p) (v := F18.1)) hB18; simp only [hP9]; exact z)
    · refine z_is1 eX4_readPart_21 (Nat.ne_of_beq_eq_false rfl) ?_
      have hP9 : ∀ F, qPart T e F a (-1) = F18 := fun F => by unfold qPart; rw [if_pos rfl, if_pos (hdg.mp h7), qFig_skip, hF18]
      refine z_al0 eX4_readPart_22 hne ?_
      first | refine z_td0 (j := 1) lX4_23 eX4_readPart_23 rfl hT hA (by decide) rfl rfl rfl ?_ | refine z_td (j := 1) lX4_23 eX4_readPart_23 rfl hT hA ⟨by decide, by decide⟩ rfl rfl rfl ?_
      first | rw [zTk_o (by decide), hd] | skip
      refine z_il1 eX4_readPart_26 ?_
      refine z_V1v eX4_readPart_27 vX4_76 rfl rfl (Nat.le_of_ble_eq_true rfl) (Nat.le_of_ble_eq_true rfl) hL.l0 (c_X3_addStep hT hL hF ⟨hl.1, by have := h7.1; omega⟩) ?_
      first | rw [zTk_o (by decide), hd] | skip
      refine z_il1 eX4_readPart_30 ?_
      refine z_iconst eX4_readPart_31 ?_
      refine z_icmp_eq (tgt := 39) eX4_readPart_32 rfl ⟨⟨by omega, by omega⟩, ⟨by omega, by omega⟩⟩ (fun h32 => ?_) (fun h32 => (by exfalso; omega))
      refine z_iconst eX4_readPart_39 ?_
      refine z_zreturn eX4_readPart_40 rfl (by first | exact Or.inl rfl | exact Or.inr rfl | exact zbi_01 _ | assumption | omega) ?_
      rw [← hQ]
      exact zLdf (B := fun F => qPart T e F a (-1)) (C := zStp C0 p (-1)) (by rw [hP9]) hB18 (zStp.k (by have := h7.1; omega))
