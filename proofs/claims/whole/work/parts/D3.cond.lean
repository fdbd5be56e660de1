/-! A text of the law: conditions. -/
theorem qCode.ev {P : Int → Int} {i tb : Int} {m : Nat} {V V' : (Int → Int) → Int} (h : qCode P i m tb V) (e : ∀ F, qFaOK F → V F = V' F) : qCode P i m tb V' := fun F hF t S t0 t1 => by
  obtain ⟨r, h1, h2, h3, h4⟩ := h F hF t S t0 t1
  exact ⟨r, h1, h2, by rw [h3, e F hF], h4⟩
theorem qPre.ev {P : Int → Int} {i tb o a : Int} {m : Nat} {u v v' : (Int → Int) → Int} (h : qPre P i m tb o u a v) (e : ∀ F, qFaOK F → v F = v' F) : qPre P i m tb o u a v' := fun F hF t S t0 t1 => by
  obtain ⟨r, h1, h2, h3, h4, h5⟩ := h F hF t S t0 t1
  exact ⟨r, h1, h2, h3, fun z => by rw [h4 z, e F hF], h5⟩
theorem zLd.to {s C q C' : zMem} {T : Int → Int} {e p a a' tb tb' : Int} {B B' : (Int → Int) → Int × Int × Int} (h : zLd s T e p C a tb B q C') (ha : a' ≤ a) (hb : tb' ≤ tb) (hB : ∀ F, B' F = B F) : zLd s T e p C a' tb' B' q C' := by
  have e1 : B' = B := funext hB
  subst e1
  refine ⟨h.1, fun z => ?_, h.2.2⟩
  obtain ⟨h1, m, h2, h3, h4⟩ := h.2.1 z
  exact ⟨h1, m, by omega, h3, h4.low hb⟩
theorem qJoin_and {a c : Int} (ha : a = 0 ∨ a = 1) (hc : c = 0 ∨ c = 1) : qJoin 2003 a c = qAnd a c := by
  rcases ha with z | z <;> rcases hc with y | y <;> subst z <;> subst y <;> decide +kernel
theorem qJoin_or {a c : Int} (ha : a = 0 ∨ a = 1) (hc : c = 0 ∨ c = 1) : qJoin 2004 a c = qOr a c := by
  rcases ha with z | z <;> rcases hc with y | y <;> subst z <;> subst y <;> decide +kernel
theorem qChN_x {T : Int → Int} {e v a f : Int} {w : List Int} {g : Int → Int → Int} {A : Int → Int × Int × Int} (h : f ≠ -1) : ∀ k : Nat, qChN T e w g A k v a f = (v, a, f) := by
  intro k
  cases k with
  | zero => rfl
  | succ k => unfold qChN; rw [if_neg h]
theorem qChN_t {T : Int → Int} {e v a n : Int} {w : List Int} {g : Int → Int → Int} {A : Int → Int × Int × Int} {k : Nat} (hn : (w.length : Int) = n) (h : qhas T e (qscan qbl T e a) w) : qChN T e w g A (k + 1) v a (-1) = qChN T e w g A k (g v (A (qscan qbl T e a + n)).1) (A (qscan qbl T e a + n)).2.1 (A (qscan qbl T e a + n)).2.2 := by
  show (if (-1 : Int) = -1 then _ else _) = _
  rw [if_pos rfl, zif_t h, hn]
theorem qChN_f {T : Int → Int} {e v a : Int} {w : List Int} {g : Int → Int → Int} {A : Int → Int × Int × Int} {k : Nat} (h : ¬ qhas T e (qscan qbl T e a) w) : qChN T e w g A (k + 1) v a (-1) = (v, qscan qbl T e a, -1) := by
  show (if (-1 : Int) = -1 then _ else _) = _
  rw [if_pos rfl, zif_f h]
/-- a row of ands that goes on at a (v so far, if w); a row of ors (u so far, if o) -/
noncomputable def qEg (T : Int → Int) (e : Int) (A : Int → Int × Int × Int) (k : Nat) (w v a : Int) : Int × Int × Int := qChN T e qw_and qAnd A k (if w = 1 then qAnd v (A a).1 else (A a).1) (A a).2.1 (A a).2.2
noncomputable def qOg (T : Int → Int) (e : Int) (A : Int → Int × Int × Int) (k : Nat) (o u : Int) (y : Int × Int × Int) : Int × Int × Int := qChN T e qw_or qOr (qEv T e A) k (if o = 1 then qOr u y.1 else y.1) y.2.1 y.2.2
theorem zin_01 {v : Int} (h : v = 0 ∨ v = 1) : zin v := by rcases h with z | z <;> rw [z] <;> decide
/-- what reading an atom, n deeper ones being allowed, is promised to do -/
def zAtomOK (G : zG) (D : Nat) (lay : zLay) (nx x e p : Int) (T : Int → Int) (n : Nat) : Prop := ∀ (s C0 : zMem) (a : Int), TxC x s 295 T e → 0 ≤ a ∧ a ≤ e → LwF C0 p → s 294 1 = p → 0 ≤ C0 p 4 ∧ C0 p 4 ≤ a → TxS lay C0 → zMM G D KX4_readAtom [zP (x + 294), zI (6 - n)] lay (tC x (zTk s 295 T e a (-1)) C0) nx (0, 0) (zY' (some (zI (zbi ((qAtom T e qFz (qFz 7) (qFz 9) n a).2.2 = -1)))) (zLd s T e p C0 a (21 - 2 * n) (fun F => qAtom T e F (F 7) (F 9) n a)) lay nx x)
theorem c_X4_readCondition {G : zG} {DA : Nat} {lay : zLay} {nx x e p : Int} {T : Int → Int} {n : Nat} (hn6 : n ≤ 6) (hDA : 10 ≤ DA) (hAt : zAtomOK G DA lay nx x e p T n) {s C0 : zMem} {a : Int} (hT : TopL lay x) (hX : TxC x s 295 T e) (ha : 0 ≤ a ∧ a ≤ e) (hL : LwA lay x p e) (hF : LwF C0 p) (hd : s 294 1 = p) (hl : 0 ≤ C0 p 4 ∧ C0 p 4 ≤ a) (hS : TxS lay C0) : zMM G (DA + 1) KX4_readCondition [zP (x + 294), zI (6 - n)] lay (tC x (zTk s 295 T e a (-1)) C0) nx (0, 0) (zY' (some (zI (zbi ((qSm T e (qAtom T e qFz (qFz 7) (qFz 9) n) a).2.2 = -1)))) (zLd s T e p C0 a (19 - 2 * n) (fun F => qSm T e (qAtom T e F (F 7) (F 9) n) a)) lay nx x) := by
  refine z_met' (L := [zP (x + 294), zI (6 - n), zU, zU, zU]) gX4_readCondition.1 rfl rfl (Nat.le_of_ble_eq_true rfl) rfl ?_
  have hA := LxAt
  have hx := hT.1
  have hne : x + 294 ≠ -1 := by omega
  have he := hX.e0
  have hp0 := hL.p0
  have hpn : p ≠ -1 := by omega
  have hT0 : ∀ k, 0 ≤ k → k < 400 → 0 ≤ T k := fun k k0 k1 => (hX.bt k k0 k1).1
  obtain ⟨A, hA9⟩ : ∃ A : (Int → Int) → Int → Int × Int × Int, (fun F => qAtom T e F (F 7) (F 9) n) = A := ⟨_, rfl⟩
  have hAF : ∀ F, qAtom T e F (F 7) (F 9) n = A F := fun F => by rw [← hA9]
  have hAi : ∀ F a, (A F a).2 = (A qFz a).2 := fun F a => by rw [← hA9]; exact qAtom_i F qFz (F 7) (qFz 7) (F 9) (qFz 9) n a
  have hAb : ∀ F, qFaOK F → ∀ a, 0 ≤ a → a ≤ e → qC e n a (A F a) := fun F h a a0 a1 => by rw [← hA9]; exact qAtom_bd h.1 h.2.1 h.2.2.1 he.2 hT0 n a a0 a1
  obtain ⟨B, hBq⟩ : ∃ B : (Int → Int) → Int × Int × Int, (fun F => qSm T e (qAtom T e F (F 7) (F 9) n) a) = B := ⟨_, rfl⟩
  have hB0 : ∀ F, B F = qOg T e (A F) 401 0 0 (qEg T e (A F) 401 0 0 a) := fun F => by
    rw [← hBq]
    dsimp only
    rw [hAF]
    unfold qSm qOg qEg qEv
    rw [if_neg (by decide), if_neg (by decide)]
  rw [show (qSm T e (qAtom T e qFz (qFz 7) (qFz 9) n) a) = B qFz by rw [← hBq], hBq]
  obtain ⟨Q, hQ⟩ : ∃ Q, zY' (some (zI (zbi ((B qFz).2.2 = -1)))) (zLd s T e p C0 a (19 - 2 * n) B) lay nx x = Q := ⟨_, rfl⟩
  have w7 : ∀ (N : Nat) (i a1 o w : Int) (u v : (Int → Int) → Int) (m k k2 : Nat) (C : zMem), e - a1 ≤ N → 0 ≤ a1 ∧ a1 ≤ e → 0 ≤ i → 2 * i ≤ a1 → (o = 0 ∨ o = 1) → (w = 0 ∨ w = 1) → zKC p e C0 C → C p 4 = C0 p 4 + m → (m : Int) + o + w ≤ a1 - a → qPre (C (p + 4)) (C0 p 4) m (19 - 2 * n) o u w v → (∀ F, qFaOK F → u F = 0 ∨ u F = 1) → (∀ F, qFaOK F → v F = 0 ∨ v F = 1) → 401 ≤ k + a1 → 401 ≤ k2 + a1 → (∀ F, B F = qOg T e (A F) k2 o (u F) (qEg T e (A F) k w (v F) a1)) → zW G KX4_readCondition (DA + 1) Q 7 [zP (x + 294), zI (6 - n), zI w, zI o, zI i] [] lay (tC x (zTk s 295 T e a1 (-1)) C) nx (0, 0) := by
    intro N
    induction N using Nat.strongRecOn with
    | _ N ih =>
      intro i a1 o w u v m k k2 C hN ha1 hi0 hi ho hw hK hm hmb hpre hu hv hk hk2 hB
      have hC4 : 0 ≤ C p 4 ∧ C p 4 ≤ a1 := by omega
      have w70 : ∀ (a2 : Int) (u2 : (Int → Int) → Int) (m2 : Nat) (C2 : zMem), a1 ≤ a2 → a2 ≤ e → zKC p e C0 C2 → C2 p 4 = C0 p 4 + m2 → (m2 : Int) ≤ a2 - a → qCode (C2 (p + 4)) (C0 p 4) m2 (19 - 2 * n) u2 → (∀ F, qFaOK F → u2 F = 0 ∨ u2 F = 1) → (∀ F, B F = qChN T e qw_or qOr (qEv T e (A F)) k2 (u2 F) (qscan qbl T e a2) (-1)) → zW G KX4_readCondition (DA + 1) Q 70 [zP (x + 294), zI (6 - n), zI 0, zI o, zI i] [] lay (tC x (zTk s 295 T e a2 (-1)) C2) nx (0, 0) := by
        intro a2 u2 m2 C2 hle ha2 hK2 hm2 hmb2 hc2 hu2 hB2
        have hbd2 := qskip_bd (T := T) ha2
        replace hS := hK2.S hp0 hS
        obtain ⟨k', hk'⟩ : ∃ k' : Nat, k2 = k' + 1 := ⟨k2 - 1, by omega⟩
        subst hk'
        by_cases hp : qhas T e (qscan qbl T e a2) qw_or
        · have hp1 := qhas_pos (n := 2) hp rfl (by decide) ⟨by omega, ha2⟩
          refine z_al0 eX4_readCondition_70 hne ?_
          first | refine z_ta0 lX4_12 eX4_readCondition_71 rfl hT hA (by decide) rfl rfl ?_ | refine z_ta lX4_12 eX4_readCondition_71 rfl hT hA ⟨by decide, by decide⟩ rfl rfl ?_
          refine z_ldcS (t := 43) eX4_readCondition_74 rfl rfl rfl (by rw [(hS 43 _ rfl).1]) ?_
          refine z_V1 eX4_readCondition_76 vX4_45 rfl rfl (by omega) (Nat.le_of_ble_eq_true rfl) ((WdAt.b).L0 hT (by decide)) (c_X10_takeWord hT hX ⟨by omega, by omega⟩ hS (t := 43) (wd := qw_or) (n := 2) rfl rfl (by decide)) ?_
          rw [zif_zTk.1 hp, zbi_t hp]
          refine z_is3 eX4_readCondition_79 (Nat.ne_of_beq_eq_false rfl) ?_
          refine z_il3 eX4_readCondition_80 ?_
          refine z_if_ne (tgt := 86) eX4_readCondition_81 rfl ⟨by omega, by omega⟩ (fun h81 => ?_) (fun h81 => (by exfalso; omega))
          refine z_ii4 eX4_readCondition_86 (Nat.ne_of_beq_eq_false rfl) ?_
          refine z_goto eX4_readCondition_89 (tgt := 7) rfl ?_
          refine ih (e - (qscan qbl T e a2 + 2)).toNat (by omega) (i + 1) (qscan qbl T e a2 + 2) 1 0 u2 u2 m2 401 k' C2 (by omega) ⟨by omega, by omega⟩ (by omega) (by omega) (Or.inr rfl) (Or.inl rfl) hK2 hm2 (by omega) hc2.pre hu2 hu2 (by omega) (by omega) (fun F => ?_)
          rw [hB2 F, qChN_t (w := qw_or) (n := 2) rfl (by rw [qskip_idem]; exact hp), qskip_idem]
          unfold qOg qEg qEv
          rw [if_pos rfl, if_neg (by decide)]
        · have hS3 : ∀ F, B F = (u2 F, qscan qbl T e a2, -1) := fun F => by rw [hB2 F, qChN_f (by rw [qskip_idem]; exact hp), qskip_idem]
          refine z_al0 eX4_readCondition_70 hne ?_
          first | refine z_ta0 lX4_12 eX4_readCondition_71 rfl hT hA (by decide) rfl rfl ?_ | refine z_ta lX4_12 eX4_readCondition_71 rfl hT hA ⟨by decide, by decide⟩ rfl rfl ?_
          refine z_ldcS (t := 43) eX4_readCondition_74 rfl rfl rfl (by rw [(hS 43 _ rfl).1]) ?_
          refine z_V1 eX4_readCondition_76 vX4_45 rfl rfl (by omega) (Nat.le_of_ble_eq_true rfl) ((WdAt.b).L0 hT (by decide)) (c_X10_takeWord hT hX ⟨by omega, by omega⟩ hS (t := 43) (wd := qw_or) (n := 2) rfl rfl (by decide)) ?_
          rw [zif_zTk.2 hp, zbi_f hp]
          refine z_is3 eX4_readCondition_79 (Nat.ne_of_beq_eq_false rfl) ?_
          refine z_il3 eX4_readCondition_80 ?_
          refine z_if_ne (tgt := 86) eX4_readCondition_81 rfl ⟨by omega, by omega⟩ (fun h81 => (by exfalso; omega)) (fun h81 => ?_)
          refine z_iconst eX4_readCondition_84 ?_
          refine z_zreturn eX4_readCondition_85 rfl (by first | exact Or.inl rfl | exact Or.inr rfl | exact zbi_01 _ | assumption | omega) ?_
          rw [← hQ]
          refine zLdt (B := B) (m := m2) (C := C2) (by rw [hS3]) (by rw [hS3]; exact qskip_idem) hK2 (by rw [hS3]; dsimp only; omega) hm2 ?_
          simp only [hS3]
          exact hc2
      have w39 : ∀ (a2 : Int) (v2 : (Int → Int) → Int) (m2 : Nat) (C2 : zMem), a1 ≤ a2 → a2 ≤ e → zKC p e C0 C2 → C2 p 4 = C0 p 4 + m2 → (m2 : Int) + o ≤ a2 - a → qPre (C2 (p + 4)) (C0 p 4) m2 (19 - 2 * n) o u 1 v2 → (∀ F, qFaOK F → v2 F = 0 ∨ v2 F = 1) → (∀ F, B F = qOg T e (A F) k2 o (u F) (qChN T e qw_and qAnd (A F) k (v2 F) a2 (-1))) → zW G KX4_readCondition (DA + 1) Q 39 [zP (x + 294), zI (6 - n), zI w, zI o, zI i] [] lay (tC x (zTk s 295 T e a2 (-1)) C2) nx (0, 0) := by
        intro a2 v2 m2 C2 hle ha2 hK2 hm2 hmb2 hpre2 hv2 hB2
        have hbd2 := qskip_bd (T := T) ha2
        replace hS := hK2.S hp0 hS
        have hF2 := hK2.F hF
        obtain ⟨k', hk'⟩ : ∃ k' : Nat, k = k' + 1 := ⟨k - 1, by omega⟩
        subst hk'
        by_cases hp : qhas T e (qscan qbl T e a2) qw_and
        · have hp1 := qhas_pos (n := 3) hp rfl (by decide) ⟨by omega, ha2⟩
          refine z_al0 eX4_readCondition_39 hne ?_
          first | refine z_ta0 lX4_12 eX4_readCondition_40 rfl hT hA (by decide) rfl rfl ?_ | refine z_ta lX4_12 eX4_readCondition_40 rfl hT hA ⟨by decide, by decide⟩ rfl rfl ?_
          refine z_ldcS (t := 42) eX4_readCondition_43 rfl rfl rfl (by rw [(hS 42 _ rfl).1]) ?_
          refine z_V1 eX4_readCondition_45 vX4_45 rfl rfl (by omega) (Nat.le_of_ble_eq_true rfl) ((WdAt.b).L0 hT (by decide)) (c_X10_takeWord hT hX ⟨by omega, by omega⟩ hS (t := 42) (wd := qw_and) (n := 3) rfl rfl (by decide)) ?_
          rw [zif_zTk.1 hp, zbi_t hp]
          refine z_is2 eX4_readCondition_48 (Nat.ne_of_beq_eq_false rfl) ?_
          refine z_il2 eX4_readCondition_49 ?_
          refine z_if_eq (tgt := 56) eX4_readCondition_50 rfl ⟨by omega, by omega⟩ (fun h50 => (by exfalso; omega)) (fun h50 => ?_)
          refine z_goto eX4_readCondition_53 (tgt := 86) rfl ?_
          refine z_ii4 eX4_readCondition_86 (Nat.ne_of_beq_eq_false rfl) ?_
          refine z_goto eX4_readCondition_89 (tgt := 7) rfl ?_
          refine ih (e - (qscan qbl T e a2 + 3)).toNat (by omega) (i + 1) (qscan qbl T e a2 + 3) o 1 u v2 m2 k' k2 C2 (by omega) ⟨by omega, by omega⟩ (by omega) (by omega) ho (Or.inr rfl) hK2 hm2 (by omega) hpre2 hu hv2 (by omega) (by omega) (fun F => ?_)
          rw [hB2 F, qChN_t (w := qw_and) (n := 3) rfl hp]
          unfold qEg
          rw [if_pos rfl]
        · have hS3 : ∀ F, B F = qChN T e qw_or qOr (qEv T e (A F)) k2 (if o = 1 then qOr (u F) (v2 F) else v2 F) (qscan qbl T e a2) (-1) := fun F => by rw [hB2 F, qChN_f hp]; rfl
          have hst := zStp.k (C := C2) (p := p) (e := e) (v := 2004)
          refine z_al0 eX4_readCondition_39 hne ?_
          first | refine z_ta0 lX4_12 eX4_readCondition_40 rfl hT hA (by decide) rfl rfl ?_ | refine z_ta lX4_12 eX4_readCondition_40 rfl hT hA ⟨by decide, by decide⟩ rfl rfl ?_
          first | rw [zTk_o (by decide), hd] | skip
          refine z_ldcS (t := 42) eX4_readCondition_43 rfl rfl rfl (by rw [(hS 42 _ rfl).1]) ?_
          refine z_V1 eX4_readCondition_45 vX4_45 rfl rfl (by omega) (Nat.le_of_ble_eq_true rfl) ((WdAt.b).L0 hT (by decide)) (c_X10_takeWord hT hX ⟨by omega, by omega⟩ hS (t := 42) (wd := qw_and) (n := 3) rfl rfl (by decide)) ?_
          first | rw [zTk_o (by decide), hd] | skip
          rw [zif_zTk.2 hp, zbi_f hp]
          refine z_is2 eX4_readCondition_48 (Nat.ne_of_beq_eq_false rfl) ?_
          refine z_il2 eX4_readCondition_49 ?_
          refine z_if_eq (tgt := 56) eX4_readCondition_50 rfl ⟨by omega, by omega⟩ (fun h50 => ?_) (fun h50 => (by exfalso; omega))
          refine z_il3 eX4_readCondition_56 ?_
          refine z_if_eq (tgt := 70) eX4_readCondition_57 rfl ⟨by omega, by omega⟩ (fun h57 => ?_) (fun h57 => ?_)
          · by_cases hz9 : o = 0
            · first | exact absurd hz9 h57 | (subst hz9; exact w70 a2 v2 m2 C2 hle ha2 hK2 hm2 (by omega) hpre2.fin0 hv2 (fun F => by rw [hS3 F, if_neg (by decide)]))
            · first | exact absurd h57 hz9 | (have hw1 : o = 1 := (by omega); subst hw1; exact w70 a2 (fun F => qOr (u F) (v2 F)) (m2 + 1) (zStp C2 p 2004) hle ha2 (hK2.trans (hst (by omega))) (by rw [zStp.n]; omega) (by omega) (((hpre2.cg (P' := zStp C2 p 2004 (p + 4)) (fun j j0 j1 => zStp.o (by omega))).fin1 (op := 2004) (by omega) (by rw [← hm2]; exact zStp.v) (by decide) (fun F hF9 => zin_01 (hu F hF9)) (fun F hF9 => zin_01 (hv2 F hF9))).ev (fun F hF9 => qJoin_or (hu F hF9) (hv2 F hF9))) (fun F hF9 => qOr_01 _ _ (hu F hF9) (hv2 F hF9)) (fun F => by rw [hS3 F, if_pos rfl]))
          · refine z_al0 eX4_readCondition_60 hne ?_
            first | refine z_td0 (j := 1) lX4_23 eX4_readCondition_61 rfl hT hA (by decide) rfl rfl rfl ?_ | refine z_td (j := 1) lX4_23 eX4_readCondition_61 rfl hT hA ⟨by decide, by decide⟩ rfl rfl rfl ?_
            first | rw [zTk_o (by decide), hd] | skip
            refine z_sipush eX4_readCondition_64 (by decide) ?_
            refine z_V1v eX4_readCondition_67 vX4_76 rfl rfl (by omega) (Nat.le_of_ble_eq_true rfl) hL.l0 (c_X3_addStep hT hL hF2 ⟨by omega, by omega⟩) ?_
            first | rw [zTk_o (by decide), hd] | skip
            by_cases hz9 : o = 0
            · first | exact absurd hz9 h57 | (subst hz9; exact w70 a2 v2 m2 C2 hle ha2 hK2 hm2 (by omega) hpre2.fin0 hv2 (fun F => by rw [hS3 F, if_neg (by decide)]))
            · first | exact absurd h57 hz9 | (have hw1 : o = 1 := (by omega); subst hw1; exact w70 a2 (fun F => qOr (u F) (v2 F)) (m2 + 1) (zStp C2 p 2004) hle ha2 (hK2.trans (hst (by omega))) (by rw [zStp.n]; omega) (by omega) (((hpre2.cg (P' := zStp C2 p 2004 (p + 4)) (fun j j0 j1 => zStp.o (by omega))).fin1 (op := 2004) (by omega) (by rw [← hm2]; exact zStp.v) (by decide) (fun F hF9 => zin_01 (hu F hF9)) (fun F hF9 => zin_01 (hv2 F hF9))).ev (fun F hF9 => qJoin_or (hu F hF9) (hv2 F hF9))) (fun F hF9 => qOr_01 _ _ (hu F hF9) (hv2 F hF9)) (fun F => by rw [hS3 F, if_pos rfl]))
      have hat := hAt s C a1 hX ha1 (hK.F hF) hd hC4 (hK.S hp0 hS)
      simp only [hAF] at hat
      refine z_il4 eX4_readCondition_7 ?_
      refine z_sipush eX4_readCondition_9 (by decide) ?_
      refine z_icmp_ge (tgt := 92) eX4_readCondition_12 rfl ⟨⟨by omega, by omega⟩, ⟨by omega, by omega⟩⟩ (fun h12 => (by exfalso; omega)) (fun h12 => ?_)
      refine z_al0 eX4_readCondition_15 hne ?_
      refine z_il1 eX4_readCondition_16 ?_
      refine z_V1y eX4_readCondition_17 vX4_73 rfl rfl (Nat.le_refl _) (Nat.le_of_ble_eq_true rfl) ((hA).L0 hT (by decide)) (hat ) (fun s17 C17 hs17 => ?_)
      first | rw [zTk_o (by decide), hd] | skip
      refine z_ifb_ne (tgt := 25) eX4_readCondition_20 rfl (fun h20 => ?_) (fun h20 => ?_)
      · obtain ⟨e1, m1, k1, k4, k3⟩ := hs17.2.1 h20
        subst e1
        replace k1 : (m1 : Int) ≤ (A qFz a1).2.1 - a1 := k1
        replace k3 : qCode (C17 (p + 4)) (C p 4) m1 (21 - 2 * n) (fun F => (A F a1).1) := k3
        have hs4 := hs17.1
        have hqc := hAb qFz qFz_ok a1 ha1.1 ha1.2
        have hle : (A qFz a1).2.1 ≤ e := hqc.1.2.2.1 h20
        have hge : a1 ≤ (A qFz a1).2.1 := hqc.2.2
        have hP1 : ∀ F, (A F a1).2.1 = (A qFz a1).2.1 := fun F => by rw [hAi F]
        have hP2 : ∀ F, (A F a1).2.2 = -1 := fun F => by rw [hAi F]; exact h20
        have hPb : ∀ F, qFaOK F → (A F a1).1 = 0 ∨ (A F a1).1 = 1 := fun F hF9 => (hAb F hF9 a1 ha1.1 ha1.2).2.1
        have hpr := hpre.cg (P' := C17 (p + 4)) (fun j j0 j1 => hs4.2.2.1 j (by omega))
        rw [hm] at k4 k3
        have hF4 := (hK.trans hs4).F hF
        refine z_il2 eX4_readCondition_25 ?_
        refine z_if_eq (tgt := 39) eX4_readCondition_26 rfl ⟨by omega, by omega⟩ (fun h26 => ?_) (fun h26 => ?_)
        · by_cases hz9 : w = 0
          · first | exact absurd hz9 h26 | (subst hz9; exact w39 (A qFz a1).2.1 (fun F => (A F a1).1) (m + m1) C17 hge hle (hK.trans hs4) (by omega) (by omega) (hpr.atom (by omega) k3 (by omega)) hPb (fun F => by rw [hB F]; unfold qEg; rw [if_neg (by decide), hP1 F, hP2 F]))
          · first | exact absurd h26 hz9 | (have hw1 : w = 1 := (by omega); subst hw1; have hst := zStp.k (C := C17) (p := p) (e := e) (v := 2003) (by omega); exact w39 (A qFz a1).2.1 (fun F => qAnd (v F) (A F a1).1) (m + m1 + 1) (zStp C17 p 2003) hge hle ((hK.trans hs4).trans hst) (by rw [zStp.n]; omega) (by omega) (((hpr.cg (P' := zStp C17 p 2003 (p + 4)) (fun j j0 j1 => zStp.o (by omega))).join (op := 2003) ho (k3.cg (P' := zStp C17 p 2003 (p + 4)) (fun j j0 j1 => zStp.o (by omega))) (by omega) (by omega) (by rw [← k4]; exact zStp.v) (by decide) (fun F hF9 => zin_01 (hv F hF9)) (fun F hF9 => zin_01 (hPb F hF9))).ev (fun F hF9 => qJoin_and (hv F hF9) (hPb F hF9))) (fun F hF9 => qAnd_01 _ _ (hv F hF9) (hPb F hF9)) (fun F => by rw [hB F]; unfold qEg; rw [if_pos rfl, hP1 F, hP2 F]))
        · refine z_al0 eX4_readCondition_29 hne ?_
          first | refine z_td0 (j := 1) lX4_23 eX4_readCondition_30 rfl hT hA (by decide) rfl rfl rfl ?_ | refine z_td (j := 1) lX4_23 eX4_readCondition_30 rfl hT hA ⟨by decide, by decide⟩ rfl rfl rfl ?_
          first | rw [zTk_o (by decide), hd] | skip
          refine z_sipush eX4_readCondition_33 (by decide) ?_
          refine z_V1v eX4_readCondition_36 vX4_76 rfl rfl (by omega) (Nat.le_of_ble_eq_true rfl) hL.l0 (c_X3_addStep hT hL hF4 ⟨by omega, by omega⟩) ?_
          first | rw [zTk_o (by decide), hd] | skip
          by_cases hz9 : w = 0
          · first | exact absurd hz9 h26 | (subst hz9; exact w39 (A qFz a1).2.1 (fun F => (A F a1).1) (m + m1) C17 hge hle (hK.trans hs4) (by omega) (by omega) (hpr.atom (by omega) k3 (by omega)) hPb (fun F => by rw [hB F]; unfold qEg; rw [if_neg (by decide), hP1 F, hP2 F]))
          · first | exact absurd h26 hz9 | (have hw1 : w = 1 := (by omega); subst hw1; have hst := zStp.k (C := C17) (p := p) (e := e) (v := 2003) (by omega); exact w39 (A qFz a1).2.1 (fun F => qAnd (v F) (A F a1).1) (m + m1 + 1) (zStp C17 p 2003) hge hle ((hK.trans hs4).trans hst) (by rw [zStp.n]; omega) (by omega) (((hpr.cg (P' := zStp C17 p 2003 (p + 4)) (fun j j0 j1 => zStp.o (by omega))).join (op := 2003) ho (k3.cg (P' := zStp C17 p 2003 (p + 4)) (fun j j0 j1 => zStp.o (by omega))) (by omega) (by omega) (by rw [← k4]; exact zStp.v) (by decide) (fun F hF9 => zin_01 (hv F hF9)) (fun F hF9 => zin_01 (hPb F hF9))).ev (fun F hF9 => qJoin_and (hv F hF9) (hPb F hF9))) (fun F hF9 => qAnd_01 _ _ (hv F hF9) (hPb F hF9)) (fun F => by rw [hB F]; unfold qEg; rw [if_pos rfl, hP1 F, hP2 F]))
      · refine z_iconst eX4_readCondition_23 ?_
        refine z_zreturn eX4_readCondition_24 rfl (by first | exact Or.inl rfl | exact Or.inr rfl | exact zbi_01 _ | assumption | omega) ?_
        rw [← hQ]
        exact zLdg (B := B) (f := (A qFz a1).2.2) (by rw [hB qFz]; unfold qOg qEg; rw [qChN_x h20, qChN_x h20]) h20 (hK.trans hs17.1) (hs17.2.2 h20)
  rw [hQ]
  refine z_iconst eX4_readCondition_0 ?_
  refine z_is2 eX4_readCondition_1 (Nat.ne_of_beq_eq_false rfl) ?_
  refine z_iconst eX4_readCondition_2 ?_
  refine z_is3 eX4_readCondition_3 (Nat.ne_of_beq_eq_false rfl) ?_
  refine z_iconst eX4_readCondition_4 ?_
  refine z_is4 eX4_readCondition_5 (Nat.ne_of_beq_eq_false rfl) ?_
  exact w7 (e - a).toNat 0 a 0 0 (fun _ => 0) (fun _ => 0) 0 401 401 C0 (by omega) ha (by decide) (by omega) (Or.inl rfl) (Or.inl rfl) (zKC.refl (by omega)) (by omega) (by omega) qPre.nil (fun F _ => Or.inl rfl) (fun F _ => Or.inl rfl) (by omega) (by omega) hB0
