/-! A text of the law, line by line. -/
theorem c_atom6 {G : zG} {lay : zLay} {nx x e p : Int} {T : Int → Int} (hT : TopL lay x) (hL : LwA lay x p e) : zAtomOK G 22 lay nx x e p T 6 :=
  c_atomS (n := 5) (by decide) (by decide) hT hL (c_atomS (n := 4) (by decide) (by decide) hT hL (c_atomS (n := 3) (by decide) (by decide) hT hL (c_atomS (n := 2) (by decide) (by decide) hT hL (c_atomS (n := 1) (by decide) (by decide) hT hL (c_atomS (n := 0) (by decide) (by decide) hT hL (c_atom0 hT hL))))))
theorem c_cond6 {G : zG} {lay : zLay} {nx x e p : Int} {T : Int → Int} {s C0 : zMem} {a : Int} (hT : TopL lay x) (hX : TxC x s 295 T e) (ha : 0 ≤ a ∧ a ≤ e) (hL : LwA lay x p e) (hF : LwF C0 p) (hd : s 294 1 = p) (hl : 0 ≤ C0 p 4 ∧ C0 p 4 ≤ a) (hS : TxS lay C0) : zMM G 23 KX4_readCondition [zP (x + 294), zI 0] lay (tC x (zTk s 295 T e a (-1)) C0) nx (0, 0) (zY' (some (zI (zbi ((qSm T e (qAtom T e qFz (qFz 7) (qFz 9) 6) a).2.2 = -1)))) (zLd s T e p C0 a 7 (fun F => qSm T e (qAtom T e F (F 7) (F 9) 6) a)) lay nx x) := by
  have h := c_X4_readCondition (G := G) (nx := nx) (n := 6) (by decide) (by decide) (c_atom6 hT hL) hT hX ha hL hF hd hl hS
  rwa [show (6 : Int) - ((6 : Nat) : Int) = 0 by decide, show (19 : Int) - 2 * ((6 : Nat) : Int) = 7 by decide] at h
theorem qLine_sk {T : Int → Int} {e a : Int} {A : Int → Int × Int × Int} : qLine T e A (qscan qbl T e a) = qLine T e A a := by
  unfold qLine
  rw [qskip_idem]
theorem qLawN_s {T : Int → Int} {e n a : Int} {A : Int → Int × Int × Int} {k : Nat} {W : Int × Int × Int} {L : Int × Int × Int × Int × Int} (hn : n ≠ 12) (hL : qLine T e A a = L) : qLawN T e A (k + 1) n W a = if L.2.2.2.2 = -1 ∧ qscan qbl T e L.2.2.2.1 < e then (if T (qscan qbl T e L.2.2.2.1) = 59 then qLawN T e A k (n + 1) (qLw L W) (qscan qbl T e L.2.2.2.1 + 1) else (n + 1, qLw L W, qscan qbl T e L.2.2.2.1, qscan qbl T e L.2.2.2.1)) else (n + 1, qLw L W, qscan qbl T e L.2.2.2.1, L.2.2.2.2) := by
  subst hL
  rw [← qLine_sk]
  show (if n = 12 then _ else _) = _
  rw [if_neg hn]
theorem qL2_n {T : Int → Int} {e k n p : Int} {A : Int → Int × Int × Int} (h : ¬ qhas T e (qscan qbl T e p) qw_if) : qL2 T e A k n p (-1) = (k, n, 1, qscan qbl T e p, -1) := by unfold qL2; rw [if_pos rfl, zif_f h]
theorem qL2_y {T : Int → Int} {e k n p : Int} {A : Int → Int × Int × Int} (h : qhas T e (qscan qbl T e p) qw_if) (h2 : (qSm T e A (qscan qbl T e p + 2)).2.2 = -1) : qL2 T e A k n p (-1) = (k, n, qSm T e A (qscan qbl T e p + 2)) := by unfold qL2; rw [if_pos rfl, zif_t h, if_pos h2]
theorem qL2_z {T : Int → Int} {e k n p : Int} {A : Int → Int × Int × Int} (h : qhas T e (qscan qbl T e p) qw_if) (h2 : (qSm T e A (qscan qbl T e p + 2)).2.2 ≠ -1) : qL2 T e A k n p (-1) = (-1, 0, 0, (qSm T e A (qscan qbl T e p + 2)).2) := by unfold qL2; rw [if_pos rfl, zif_t h, if_neg h2]
theorem qLaw_am {kd am am' s : Int} {W : Int × Int × Int} (h : kd ≠ 2 → am' = am) (pl f : Int) : qLw (kd, am', s, pl, f) W = (qLf kd am s W.1, qLh kd W.2.1, qLl kd s W.2.2) := by
  unfold qLw qLf
  dsimp only
  by_cases c : kd = 2
  · have e1 : ∀ z : Int, (if kd = 0 then z else if kd = 1 then -z else 0) = 0 := fun z => by rw [if_neg (by omega), if_neg (by omega)]
    rw [e1, e1]
  · rw [h c]
theorem c_lawLoop {G : zG} {lay : zLay} {nx x e p : Int} {T : Int → Int} {s0 C9 : zMem} {Q : zQ} {A : (Int → Int) → Int → Int × Int × Int} {R : (Int → Int) → Int × (Int × Int × Int) × Int × Int} (hT : TopL lay x) (hL : LwA lay x p e) (hX0 : TxC x s0 295 T e) (hd0 : s0 294 1 = p) (hS9 : TxS lay C9) (hA0 : ∀ F, qAtom T e F (F 7) (F 9) 6 = A F) (hRi : ∀ F, (R F).1 = (R qFz).1 ∧ (R F).2.2 = (R qFz).2.2)
    (hgood : ∀ (a : Int) (C : zMem), (R qFz).2.2.2 = -1 → (∀ o, o < p → C o = C9 o) → zLI e p C (R qFz).1 (fun F => (R F).2.1) → Q (.inl (some (zI 1))) lay (tC x (zTk s0 295 T e a (-1)) C) nx)
    (hbad : ∀ (q C : zMem), (R qFz).2.2.2 ≠ -1 → q 295 0 = (R qFz).2.2.2 → (∀ i, i ≠ 295 → q i = s0 i) → (∀ o, o < p → C o = C9 o) → Q (.inl (some (zI 0))) lay (tC x q C) nx) :
    ∀ (k : Nat) (n a1 : Int) (C : zMem) (W : (Int → Int) → Int × Int × Int) (y1 y4 y5 : zAV), y1.1 ≠ 1 → y4.1 ≠ 1 → n + k = 13 → 0 ≤ n → 0 ≤ a1 ∧ a1 ≤ e → C p 4 ≤ a1 → (∀ o, o < p → C o = C9 o) → zLI e p C n W → (∀ F, qLawN T e (A F) k n (W F) a1 = R F) → zW G KX4_readText 61 Q 35 [zP (x + 294), y1, zI e, zI n, y4, y5] [] lay (tC x (zTk s0 295 T e a1 (-1)) C) nx (0, 0) := by
  have hA := LxAt
  have hx := hT.1
  have hne : x + 294 ≠ -1 := by omega
  have he := hX0.e0
  have hp0 := hL.p0
  have hpn : p ≠ -1 := by omega
  have hT0 : ∀ k, 0 ≤ k → k < 400 → 0 ≤ T k := fun k k0 k1 => (hX0.bt k k0 k1).1
  have hSC : ∀ C : zMem, (∀ o, o < p → C o = C9 o) → TxS lay C := fun C h t q hq => by
    obtain ⟨a, b, c⟩ := hS9 t q hq
    exact ⟨a, b, fun i hi => by rw [h _ (by omega)]; exact c i hi⟩
  have hfa : ∀ (a f : Int) (C : zMem), (R qFz).2.2.2 = f → 0 ≤ f → (∀ o, o < p → C o = C9 o) → Q (.inl (some (zI 0))) lay (tC x (zTk s0 295 T e a f) C) nx := fun a f C h1 h2 h3 => hbad _ _ (by omega) (by rw [h1]; exact zTk_0) (fun i hi => zTk_o hi) h3
  intro k
  induction k with
  | zero => intro n a1 C W y1 y4 y5 _ _ hnk hn0 _ _ _ hI; have := hI.1.1; have := hI.2.1; omega
  | succ k ih =>
    intro n a1 C W y1 y4 y5 hy1 hy4 hnk hn0 ha1 hC4 hfr hI hR
    have hX := hX0
    have hS := hSC C hfr
    have hbd := qskip_bd (T := T) ha1.2
    have hI4 := hI.2.2.2.1
    by_cases c12 : n = 12
    · have hRf : (R qFz).2.2.2 = qscan qbl T e a1 := by
        rw [← hR qFz]
        show (if n = 12 then _ else _ : Int × (Int × Int × Int) × Int × Int).2.2.2 = _
        rw [if_pos c12]
      refine z_il3 eX4_readText_35 ?_
      refine z_bipush eX4_readText_36 (by decide) ?_
      refine z_icmp_ge (tgt := 148) eX4_readText_38 rfl ⟨⟨by omega, by omega⟩, ⟨by omega, by omega⟩⟩ (fun h38 => ?_) (fun h38 => (by exfalso; omega))
      refine z_al0 eX4_readText_148 hne ?_
      first | refine z_ta0 lX4_12 eX4_readText_149 rfl hT hA (by decide) rfl rfl ?_ | refine z_ta lX4_12 eX4_readText_149 rfl hT hA ⟨by decide, by decide⟩ rfl rfl ?_
      refine z_V0 eX4_readText_152 vX4_61 rfl rfl (Nat.le_of_ble_eq_true rfl) (Nat.le_of_ble_eq_true rfl) ((WdAt.b).L0 hT (by decide)) (c_X10_fail hT hX ⟨by omega, by omega⟩ (by decide)) ?_
      rw [if_pos rfl]
      refine z_zreturn eX4_readText_155 rfl (by first | exact Or.inl rfl | exact Or.inr rfl | exact zbi_01 _ | assumption | omega) ?_
      exact hfa _ _ _ hRf (by omega) hfr
    · have hIn := hI.1.1
      have hI0 := hI.2.1
      have w116 : ∀ (kd am am' a4 pl : Int) (m : Nat) (sv : (Int → Int) → Int) (C1 : zMem) (y4 y5 : zAV), y4.1 ≠ 1 → 0 ≤ kd ∧ kd ≤ 2 → 0 ≤ am ∧ am ≤ 20 → (kd = 2 → am = 1) → (kd ≠ 2 → am' = am) → zKC p e C C1 → C1 p 4 = C p 4 + m → ((m = 0 ∧ ∀ F, sv F = 1) ∨ (qCode (C1 (p + 4)) (C p 4) m 7 sv ∧ ∀ F, qFaOK F → sv F = 0 ∨ sv F = 1)) → C1 p 4 ≤ a4 → a1 ≤ a4 → a4 ≤ e → (∀ F, qLine T e (A F) a1 = (kd, am', sv F, pl, -1)) → qscan qbl T e pl = qscan qbl T e a4 → zW G KX4_readText 61 Q 116 [zP (x + 294), y1, zI e, zI n, y4, y5] [] lay (tC x (zTk s0 295 T e a4 (-1)) (zLn C1 p kd am)) nx (0, 0) := by
        intro kd am am' a4 pl m sv C1 y4 y5 hy4 hkd ham h2 ham2 hK hm hc hC14 hle ha4 hLn hpl
        have hst := hI.step (sv := sv) ⟨hn0, by omega⟩ hkd ham h2 hK hm hc
        have hbd4 := qskip_bd (T := T) ha4
        have hfr1 : ∀ o, o < p → zLn C1 p kd am o = C9 o := fun o ho => by
          unfold zLn
          rw [zset_o (by omega), zset_o (by omega), zset_o (by omega), zset_o (by omega), hK.1 _ (by omega) (by omega)]
          exact hfr o ho
        have hS := hSC _ hfr1
        have hd4 : zLn C1 p kd am p 4 = C1 p 4 := by unfold zLn; rw [zset_f (by decide), zset_o (by omega), zset_o (by omega), zset_o (by omega)]
        have hW : ∀ F, qLw (kd, am', sv F, pl, -1) (W F) = (qLf kd am (sv F) (W F).1, qLh kd (W F).2.1, qLl kd (sv F) (W F).2.2) := fun F => qLaw_am ham2 pl (-1)
        have hR2 : ∀ F, R F = if qscan qbl T e a4 < e then (if T (qscan qbl T e a4) = 59 then qLawN T e (A F) k (n + 1) (qLf kd am (sv F) (W F).1, qLh kd (W F).2.1, qLl kd (sv F) (W F).2.2) (qscan qbl T e a4 + 1) else (n + 1, (qLf kd am (sv F) (W F).1, qLh kd (W F).2.1, qLl kd (sv F) (W F).2.2), qscan qbl T e a4, qscan qbl T e a4)) else (n + 1, (qLf kd am (sv F) (W F).1, qLh kd (W F).2.1, qLl kd (sv F) (W F).2.2), qscan qbl T e a4, -1) := fun F => by
          rw [← hR F, qLawN_s c12 (hLn F), hW F, hpl]
          by_cases c : qscan qbl T e a4 < e
          · rw [if_pos ⟨rfl, c⟩, if_pos c]
          · rw [if_neg (fun q => c q.2), if_neg c]
        refine z_al0 eX4_readText_116 hne ?_
        first | refine z_ta0 lX4_12 eX4_readText_117 rfl hT hA (by decide) rfl rfl ?_ | refine z_ta lX4_12 eX4_readText_117 rfl hT hA ⟨by decide, by decide⟩ rfl rfl ?_
        refine z_V0 eX4_readText_120 vX4_31 rfl rfl (Nat.le_of_ble_eq_true rfl) (Nat.le_of_ble_eq_true rfl) ((WdAt.b).L0 hT (by decide)) (c_X10_atEnd hT hX ⟨by omega, by omega⟩) ?_
        refine z_ifb_eq (tgt := 128) eX4_readText_123 rfl (fun h123 => ?_) (fun h123 => ?_)
        · refine z_al0 eX4_readText_128 hne ?_
          first | refine z_ta0 lX4_12 eX4_readText_129 rfl hT hA (by decide) rfl rfl ?_ | refine z_ta lX4_12 eX4_readText_129 rfl hT hA ⟨by decide, by decide⟩ rfl rfl ?_
          refine z_bipush eX4_readText_132 (by decide) ?_
          refine z_V1 eX4_readText_134 vX4_57 rfl rfl (Nat.le_of_ble_eq_true rfl) (Nat.le_of_ble_eq_true rfl) ((WdAt.b).L0 hT (by decide)) (c_X10_needSign hT hX ⟨by omega, by omega⟩ (by decide) (by decide) rfl) ?_
          refine z_ifk_ne (tgt := 142) eX4_readText_137 rfl (fun h137 => ?_) (fun h137 => ?_)
          · have hw137 := qsgn_pos h137 ⟨by omega, by omega⟩
            refine z_ii3 eX4_readText_142 (Nat.ne_of_beq_eq_false rfl) ?_
            refine z_goto eX4_readText_145 (tgt := 35) rfl ?_
            exact ih (n + 1) (qscan qbl T e a4 + 1) _ _ _ _ _ hy1 hy4 (by omega) (by omega) ⟨by omega, by omega⟩ (by rw [hd4]; omega) hfr1 hst (fun F => by rw [hR2 F, if_pos h137.1, if_pos h137.2])
          · refine z_iconst eX4_readText_140 ?_
            refine z_zreturn eX4_readText_141 rfl (by first | exact Or.inl rfl | exact Or.inr rfl | exact zbi_01 _ | assumption | omega) ?_
            exact hfa _ _ _ (by rw [hR2, if_pos (Classical.byContradiction h123), if_neg (fun q => h137 ⟨Classical.byContradiction h123, q⟩)]) (by omega) hfr1
        · refine z_iconst eX4_readText_126 ?_
          refine z_zreturn eX4_readText_127 rfl (by first | exact Or.inl rfl | exact Or.inr rfl | exact zbi_01 _ | assumption | omega) ?_
          have hR3 : ∀ F, R F = (n + 1, (qLf kd am (sv F) (W F).1, qLh kd (W F).2.1, qLl kd (sv F) (W F).2.2), qscan qbl T e a4, -1) := fun F => by rw [hR2 F, if_neg h123]
          exact hgood _ _ (by rw [hR3]) hfr1 (by simp only [hR3]; exact hst)
      have w105 : ∀ (kd am am' a4 pl : Int) (m : Nat) (sv : (Int → Int) → Int) (C1 : zMem), 0 ≤ kd ∧ kd ≤ 2 → 0 ≤ am ∧ am ≤ 20 → (kd = 2 → am = 1) → (kd ≠ 2 → am' = am) → zKC p e C C1 → C1 p 4 = C p 4 + m → ((m = 0 ∧ ∀ F, sv F = 1) ∨ (qCode (C1 (p + 4)) (C p 4) m 7 sv ∧ ∀ F, qFaOK F → sv F = 0 ∨ sv F = 1)) → C1 p 4 ≤ a4 → a1 ≤ a4 → a4 ≤ e → (∀ F, qLine T e (A F) a1 = (kd, am', sv F, pl, -1)) → qscan qbl T e pl = qscan qbl T e a4 → zW G KX4_readText 61 Q 105 [zP (x + 294), y1, zI e, zI n, zI kd, zI am] [] lay (tC x (zTk s0 295 T e a4 (-1)) C1) nx (0, 0) := by
        intro kd am am' a4 pl m sv C1 hkd ham h2 ham2 hK hm hc hC14 hle ha4 hLn hpl
        have hF1 := hK.F hI.2.2.2.2.1
        have hc0 : C1 p 0 = n := by rw [hK.2.1 0 (by decide)]; exact hI0
        refine z_al0 eX4_readText_105 hne ?_
        first | refine z_td0 (j := 1) lX4_23 eX4_readText_106 rfl hT hA (by decide) rfl rfl rfl ?_ | refine z_td (j := 1) lX4_23 eX4_readText_106 rfl hT hA ⟨by decide, by decide⟩ rfl rfl rfl ?_
        first | rw [zTk_o (by decide), hd0] | skip
        refine z_il4 eX4_readText_109 ?_
        refine z_il5 eX4_readText_111 ?_
        refine z_V2v eX4_readText_113 vX4_53 rfl rfl (Nat.le_of_ble_eq_true rfl) (Nat.le_of_ble_eq_true rfl) hL.l0 (c_X3_addLine hT hL hF1 ⟨by omega, by omega⟩) ?_
        first | rw [zTk_o (by decide), hd0] | skip
        exact w116 kd am am' a4 pl m sv C1 _ _ (Nat.ne_of_beq_eq_false rfl) hkd ham h2 ham2 hK hm hc hC14 hle ha4 hLn hpl
      have w77 : ∀ (kd am am' a3 : Int), 0 ≤ kd ∧ kd ≤ 2 → 0 ≤ am ∧ am ≤ 20 → (kd = 2 → am = 1) → (kd ≠ 2 → am' = am) → a1 ≤ a3 ∧ a3 ≤ e → (∀ F, qLine T e (A F) a1 = qL2 T e (A F) kd am' a3 (-1)) → zW G KX4_readText 61 Q 77 [zP (x + 294), y1, zI e, zI n, zI kd, zI am] [] lay (tC x (zTk s0 295 T e a3 (-1)) C) nx (0, 0) := by
        intro kd am am' a3 hkd ham h2 ham2 ha3 hLn
        have hbd3 := qskip_bd (T := T) ha3.2
        by_cases hp : qhas T e (qscan qbl T e a3) qw_if
        · have hp1 := qhas_pos (n := 2) hp rfl (by decide) ⟨by omega, ha3.2⟩
          have hcd := c_cond6 (G := G) (nx := nx) (a := qscan qbl T e a3 + 2) hT hX ⟨by omega, by omega⟩ hL hI.2.2.2.2.1 hd0 ⟨hI4.1, by omega⟩ hS
          have hqc := (qSm_bd (T := T) (e := e) (n := 6) (by omega) (fun a a0 a1 => qAtom_bd (T := T) (e := e) qFz_ok.1 (H := qFz 7) (V := qFz 9) (Or.inl rfl) (Or.inl rfl) he.2 hT0 6 a a0 a1) (qscan qbl T e a3 + 2) (by omega) (by omega))
          have h01 : ∀ F, qFaOK F → (qSm T e (qAtom T e F (F 7) (F 9) 6) (qscan qbl T e a3 + 2)).1 = 0 ∨ (qSm T e (qAtom T e F (F 7) (F 9) 6) (qscan qbl T e a3 + 2)).1 = 1 := fun F hFo => (qSm_bd (T := T) (e := e) (n := 6) (by omega) (fun a a0 a1 => qAtom_bd (T := T) (e := e) hFo.1 hFo.2.1 hFo.2.2.1 he.2 hT0 6 a a0 a1) (qscan qbl T e a3 + 2) (by omega) (by omega)).2.1
          have hSi : ∀ F, (qSm T e (qAtom T e F (F 7) (F 9) 6) (qscan qbl T e a3 + 2)).2 = (qSm T e (qAtom T e qFz (qFz 7) (qFz 9) 6) (qscan qbl T e a3 + 2)).2 := fun F => qSm_i (fun a => qAtom_i F qFz (F 7) (qFz 7) (F 9) (qFz 9) 6 a) _
          obtain ⟨B, hB9⟩ : ∃ B : (Int → Int) → Int × Int × Int, (fun F => qSm T e (qAtom T e F (F 7) (F 9) 6) (qscan qbl T e a3 + 2)) = B := ⟨_, rfl⟩
          have hBF : ∀ F, qSm T e (qAtom T e F (F 7) (F 9) 6) (qscan qbl T e a3 + 2) = B F := fun F => by rw [← hB9]
          have hBA : ∀ F, qSm T e (A F) (qscan qbl T e a3 + 2) = B F := fun F => by rw [← hA0]; exact hBF F
          simp only [hBF] at hcd hqc h01 hSi
          change zMM _ _ _ _ _ _ _ _ (zY' _ (zLd _ _ _ _ _ _ _ B) _ _ _) at hcd
          refine z_il5 eX4_readText_77 ?_
          refine z_iconst eX4_readText_79 ?_
          refine z_icmp_eq (tgt := 103) eX4_readText_80 rfl ⟨⟨by omega, by omega⟩, ⟨by omega, by omega⟩⟩ (fun h80 => (by exfalso; omega)) (fun h80 => ?_)
          refine z_al0 eX4_readText_83 hne ?_
          first | refine z_ta0 lX4_12 eX4_readText_84 rfl hT hA (by decide) rfl rfl ?_ | refine z_ta lX4_12 eX4_readText_84 rfl hT hA ⟨by decide, by decide⟩ rfl rfl ?_
          refine z_ldcS (t := 30) eX4_readText_87 rfl rfl rfl (by rw [(hS 30 _ rfl).1]) ?_
          refine z_V1 eX4_readText_89 vX4_45 rfl rfl (Nat.le_of_ble_eq_true rfl) (Nat.le_of_ble_eq_true rfl) ((WdAt.b).L0 hT (by decide)) (c_X10_takeWord hT hX ⟨by omega, by omega⟩ hS (t := 30) (wd := qw_if) (n := 2) rfl rfl (by decide)) ?_
          refine z_ifk_eq (tgt := 105) eX4_readText_92 rfl (fun h92 => ?_) (fun h92 => ?_)
          · first | exact absurd hp h92 | (obtain ⟨e1, m1, k1, k2, k3⟩ := hs97.2.1 h100; subst e1; replace k1 : (m1 : Int) ≤ (B qFz).2.1 - (qscan qbl T e a3 + 2) := k1; have hle := hqc.1.2.2.1 h100; have hge := hqc.2.2; exact w105 kd am am' (B qFz).2.1 (B qFz).2.1 m1 (fun F => (B F).1) C97 hkd ham h2 ham2 hs97.1 k2 (Or.inr ⟨k3, h01⟩) (by omega) (by omega) hle (fun F => by rw [hLn F, qL2_y hp (by rw [hBA, hSi F]; exact h100), hBA F]; exact Prod.ext rfl (Prod.ext rfl (Prod.ext rfl (by show (B F).2 = _; rw [hSi F]; exact Prod.ext rfl h100)))) rfl)
          · have hw92 := qhas_pos (wd := qw_if) (n := 2) h92 rfl (by decide) ⟨by omega, by omega⟩
            refine z_al0 eX4_readText_95 hne ?_
            refine z_iconst eX4_readText_96 ?_
            refine z_V1y eX4_readText_97 vX4_49 rfl rfl (Nat.le_of_ble_eq_true rfl) (Nat.le_of_ble_eq_true rfl) ((hA).L0 hT (by decide)) (hcd ) (fun s97 C97 hs97 => ?_)
            refine z_ifb_ne (tgt := 105) eX4_readText_100 rfl (fun h100 => ?_) (fun h100 => ?_)
            · first | exact absurd hp h92 | (obtain ⟨e1, m1, k1, k2, k3⟩ := hs97.2.1 h100; subst e1; replace k1 : (m1 : Int) ≤ (B qFz).2.1 - (qscan qbl T e a3 + 2) := k1; have hle := hqc.1.2.2.1 h100; have hge := hqc.2.2; exact w105 kd am am' (B qFz).2.1 (B qFz).2.1 m1 (fun F => (B F).1) C97 hkd ham h2 ham2 hs97.1 k2 (Or.inr ⟨k3, h01⟩) (by omega) (by omega) hle (fun F => by rw [hLn F, qL2_y hp (by rw [hBA, hSi F]; exact h100), hBA F]; exact Prod.ext rfl (Prod.ext rfl (Prod.ext rfl (by show (B F).2 = _; rw [hSi F]; exact Prod.ext rfl h100)))) rfl)
            · refine z_iconst eX4_readText_103 ?_
              refine z_zreturn eX4_readText_104 rfl (by first | exact Or.inl rfl | exact Or.inr rfl | exact zbi_01 _ | assumption | omega) ?_
              have hLz : qLine T e (A qFz) a1 = (-1, 0, 0, (B qFz).2) := by rw [hLn, qL2_z hp (by rw [hBA]; exact h100), hBA]
              exact hbad _ _ (by rw [← hR qFz, qLawN_s c12 hLz, if_neg (fun q => h100 q.1)]; exact h100) (by rw [(hs97.2.2 h100).1, ← hR qFz, qLawN_s c12 hLz, if_neg (fun q => h100 q.1)]) (hs97.2.2 h100).2 (fun o ho => by rw [hs97.1.1 _ (by omega) (by omega)]; exact hfr o ho)
        · skip
          refine z_il5 eX4_readText_77 ?_
          refine z_iconst eX4_readText_79 ?_
          refine z_icmp_eq (tgt := 103) eX4_readText_80 rfl ⟨⟨by omega, by omega⟩, ⟨by omega, by omega⟩⟩ (fun h80 => (by exfalso; omega)) (fun h80 => ?_)
          refine z_al0 eX4_readText_83 hne ?_
          first | refine z_ta0 lX4_12 eX4_readText_84 rfl hT hA (by decide) rfl rfl ?_ | refine z_ta lX4_12 eX4_readText_84 rfl hT hA ⟨by decide, by decide⟩ rfl rfl ?_
          refine z_ldcS (t := 30) eX4_readText_87 rfl rfl rfl (by rw [(hS 30 _ rfl).1]) ?_
          refine z_V1 eX4_readText_89 vX4_45 rfl rfl (Nat.le_of_ble_eq_true rfl) (Nat.le_of_ble_eq_true rfl) ((WdAt.b).L0 hT (by decide)) (c_X10_takeWord hT hX ⟨by omega, by omega⟩ hS (t := 30) (wd := qw_if) (n := 2) rfl rfl (by decide)) ?_
          refine z_ifk_eq (tgt := 105) eX4_readText_92 rfl (fun h92 => ?_) (fun h92 => ?_)
          · exact w105 kd am am' a3 (qscan qbl T e a3) 0 (fun _ => 1) C hkd ham h2 ham2 (zKC.refl hI4.2) (by omega) (Or.inl ⟨rfl, fun _ => rfl⟩) (by omega) ha3.1 ha3.2 (fun F => by rw [hLn F, qL2_n hp]) qskip_idem
          · have hw92 := qhas_pos (wd := qw_if) (n := 2) h92 rfl (by decide) ⟨by omega, by omega⟩
            exact absurd h92 hp
      have w45 : ∀ (kd a2 : Int), 0 ≤ kd ∧ kd ≤ 2 → a1 ≤ a2 ∧ a2 ≤ e → (∀ F, qLine T e (A F) a1 = qL1 T e (A F) kd a2) → zW G KX4_readText 61 Q 45 [zP (x + 294), y1, zI e, zI n, y4, y5] [zI kd] lay (tC x (zTk s0 295 T e a2 (-1)) C) nx (0, 0) := by
        intro kd a2 hkd ha2 hLn
        refine z_is4 eX4_readText_45 (Nat.ne_of_beq_eq_false rfl) ?_
        refine z_il4 eX4_readText_47 ?_
        refine z_iconst eX4_readText_49 ?_
        refine z_icmp_ne (tgt := 55) eX4_readText_50 rfl ⟨⟨by omega, by omega⟩, ⟨by omega, by omega⟩⟩ (fun h50 => ?_) (fun h50 => (by exfalso; omega))
        refine z_il4 eX4_readText_55 ?_
        refine z_iconst eX4_readText_57 ?_
        refine z_icmp_ne (tgt := 65) eX4_readText_58 rfl ⟨⟨by omega, by omega⟩, ⟨by omega, by omega⟩⟩ (fun h58 => ?_) (fun h58 => ?_)
        · refine z_al0 eX4_readText_65 hne ?_
          first | refine z_ta0 lX4_12 eX4_readText_66 rfl hT hA (by decide) rfl rfl ?_ | refine z_ta lX4_12 eX4_readText_66 rfl hT hA ⟨by decide, by decide⟩ rfl rfl ?_
          refine z_iconst eX4_readText_69 ?_
          refine z_bipush eX4_readText_70 (by decide) ?_
          refine z_tkn eX4_readText_72 vX4_39 rfl rfl (Nat.le_of_ble_eq_true rfl) (Nat.le_of_ble_eq_true rfl) hT hX ⟨by omega, by omega⟩ ⟨by omega, by omega⟩ ⟨by omega, by omega⟩ (fun F72 hF72 hG72 hB72 hP72 => ?_) (fun F72 hF72 hG72 hB72 => ?_)
          · refine z_is5 eX4_readText_75 (Nat.ne_of_beq_eq_false rfl) ?_
            by_cases hz9 : kd = 2
            · first | exact absurd hz9 h58 | (subst hz9; exact w77 2 1 0 a2 (by decide) (by decide) (fun _ => rfl) (fun z => absurd rfl z) ha2 (fun F => by rw [hLn F]; unfold qL1; rw [if_pos rfl]))
            · first | exact absurd h58 hz9 | exact w77 kd F72.1 F72.1 F72.2.1 hkd hB72 (fun z => absurd z hz9) (fun _ => rfl) ⟨by have := qFig_gt (by rw [hF72]; exact hG72) ⟨by omega, ha2.2⟩ he.2 hT0; have := qskip_bd (T := T) ha2.2; rw [hF72] at *; omega, hP72.2⟩ (fun F => by rw [hLn F]; unfold qL1; rw [if_neg hz9, hF72, hG72])
          · refine z_is5 eX4_readText_75 (Nat.ne_of_beq_eq_false rfl) ?_
            have hLz : qLine T e (A qFz) a1 = (-1, 0, 0, F72.2.1, F72.2.2) := (by rw [hLn]; unfold qL1; rw [if_neg h58, hF72]; unfold qL2; rw [if_neg (by omega)])
            refine z_il5 eX4_readText_77 ?_
            refine z_iconst eX4_readText_79 ?_
            refine z_icmp_eq (tgt := 103) eX4_readText_80 rfl ⟨⟨by omega, by omega⟩, ⟨by omega, by omega⟩⟩ (fun h80 => ?_) (fun h80 => (by exfalso; omega))
            refine z_iconst eX4_readText_103 ?_
            refine z_zreturn eX4_readText_104 rfl (by first | exact Or.inl rfl | exact Or.inr rfl | exact zbi_01 _ | assumption | omega) ?_
            exact hfa _ _ _ (by rw [← hR qFz, qLawN_s c12 hLz, if_neg (fun q => by have := q.1; dsimp only at this; omega)]) hB72 hfr
        · refine z_iconst eX4_readText_61 ?_
          refine z_goto eX4_readText_62 (tgt := 75) rfl ?_
          refine z_is5 eX4_readText_75 (Nat.ne_of_beq_eq_false rfl) ?_
          by_cases hz9 : kd = 2
          · first | exact absurd hz9 h58 | (subst hz9; exact w77 2 1 0 a2 (by decide) (by decide) (fun _ => rfl) (fun z => absurd rfl z) ha2 (fun F => by rw [hLn F]; unfold qL1; rw [if_pos rfl]))
          · first | exact absurd h58 hz9 | exact w77 kd F72.1 F72.1 F72.2.1 hkd hB72 (fun z => absurd z hz9) (fun _ => rfl) ⟨by have := qFig_gt (by rw [hF72]; exact hG72) ⟨by omega, ha2.2⟩ he.2 hT0; have := qskip_bd (T := T) ha2.2; rw [hF72] at *; omega, hP72.2⟩ (fun F => by rw [hLn F]; unfold qL1; rw [if_neg hz9, hF72, hG72])
      by_cases k0 : qhas T e (qscan qbl T e a1) qw_feel
      · have kp := qhas_pos (n := 4) k0 rfl (by decide) ha1
        refine z_il3 eX4_readText_35 ?_
        refine z_bipush eX4_readText_36 (by decide) ?_
        refine z_icmp_ge (tgt := 148) eX4_readText_38 rfl ⟨⟨by omega, by omega⟩, ⟨by omega, by omega⟩⟩ (fun h38 => (by exfalso; omega)) (fun h38 => ?_)
        refine z_al0 eX4_readText_41 hne ?_
        refine z_V0 eX4_readText_42 vX4_35 rfl rfl (Nat.le_of_ble_eq_true rfl) (Nat.le_of_ble_eq_true rfl) ((hA).L0 hT (by decide)) (c_X4_takeKind hT hX ha1 hS) ?_
        rw [zif_t k0, zif_t k0, zif_t k0]
        exact w45 0 _ (by decide) ⟨by omega, by omega⟩ (fun F => by unfold qLine; rw [zif_t k0])
      · by_cases k1 : qhas T e (qscan qbl T e a1) qw_dull
        · have kp := qhas_pos (n := 4) k1 rfl (by decide) ha1
          refine z_il3 eX4_readText_35 ?_
          refine z_bipush eX4_readText_36 (by decide) ?_
          refine z_icmp_ge (tgt := 148) eX4_readText_38 rfl ⟨⟨by omega, by omega⟩, ⟨by omega, by omega⟩⟩ (fun h38 => (by exfalso; omega)) (fun h38 => ?_)
          refine z_al0 eX4_readText_41 hne ?_
          refine z_V0 eX4_readText_42 vX4_35 rfl rfl (Nat.le_of_ble_eq_true rfl) (Nat.le_of_ble_eq_true rfl) ((hA).L0 hT (by decide)) (c_X4_takeKind hT hX ha1 hS) ?_
          rw [zif_f k0, zif_f k0, zif_f k0, zif_t k1, zif_t k1, zif_t k1]
          exact w45 1 _ (by decide) ⟨by omega, by omega⟩ (fun F => by unfold qLine; rw [zif_f k0, zif_t k1])
        · by_cases k2 : qhas T e (qscan qbl T e a1) qw_lapse
          · have kp := qhas_pos (n := 5) k2 rfl (by decide) ha1
            refine z_il3 eX4_readText_35 ?_
            refine z_bipush eX4_readText_36 (by decide) ?_
            refine z_icmp_ge (tgt := 148) eX4_readText_38 rfl ⟨⟨by omega, by omega⟩, ⟨by omega, by omega⟩⟩ (fun h38 => (by exfalso; omega)) (fun h38 => ?_)
            refine z_al0 eX4_readText_41 hne ?_
            refine z_V0 eX4_readText_42 vX4_35 rfl rfl (Nat.le_of_ble_eq_true rfl) (Nat.le_of_ble_eq_true rfl) ((hA).L0 hT (by decide)) (c_X4_takeKind hT hX ha1 hS) ?_
            rw [zif_f k0, zif_f k0, zif_f k0, zif_f k1, zif_f k1, zif_f k1, zif_t k2, zif_t k2, zif_t k2]
            exact w45 2 _ (by decide) ⟨by omega, by omega⟩ (fun F => by unfold qLine; rw [zif_f k0, zif_f k1, zif_t k2])
          · have hLz : qLine T e (A qFz) a1 = (-1, 0, 0, qscan qbl T e a1, qscan qbl T e a1) := by unfold qLine; rw [zif_f k0, zif_f k1, zif_f k2]
            refine z_il3 eX4_readText_35 ?_
            refine z_bipush eX4_readText_36 (by decide) ?_
            refine z_icmp_ge (tgt := 148) eX4_readText_38 rfl ⟨⟨by omega, by omega⟩, ⟨by omega, by omega⟩⟩ (fun h38 => (by exfalso; omega)) (fun h38 => ?_)
            refine z_al0 eX4_readText_41 hne ?_
            refine z_V0 eX4_readText_42 vX4_35 rfl rfl (Nat.le_of_ble_eq_true rfl) (Nat.le_of_ble_eq_true rfl) ((hA).L0 hT (by decide)) (c_X4_takeKind hT hX ha1 hS) ?_
            rw [zif_f k0, zif_f k0, zif_f k0, zif_f k1, zif_f k1, zif_f k1, zif_f k2, zif_f k2, zif_f k2]
            refine z_is4 eX4_readText_45 (Nat.ne_of_beq_eq_false rfl) ?_
            refine z_il4 eX4_readText_47 ?_
            refine z_iconst eX4_readText_49 ?_
            refine z_icmp_ne (tgt := 55) eX4_readText_50 rfl ⟨⟨by omega, by omega⟩, ⟨by omega, by omega⟩⟩ (fun h50 => (by exfalso; omega)) (fun h50 => ?_)
            refine z_iconst eX4_readText_53 ?_
            refine z_zreturn eX4_readText_54 rfl (by first | exact Or.inl rfl | exact Or.inr rfl | exact zbi_01 _ | assumption | omega) ?_
            exact hfa _ _ _ (by rw [← hR qFz, qLawN_s c12 hLz, if_neg (fun q => by have := q.1; dsimp only at this; omega)]) (by omega) hfr
