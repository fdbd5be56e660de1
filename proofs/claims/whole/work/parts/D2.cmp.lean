/-! A text of the law: comparisons. -/
theorem zLdg {lay : zLay} {s q C0 C : zMem} {nx x e p a tb f : Int} {T : Int → Int} {B : (Int → Int) → Int × Int × Int} (h : (B qFz).2.2 = f) (hf : f ≠ -1) (hk : zKC p e C0 C) (hq : q 295 0 = f ∧ ∀ i, i ≠ 295 → q i = s i) : zY' (some (zI (zbi ((B qFz).2.2 = -1)))) (zLd s T e p C0 a tb B) lay nx x (.inl (some (zI 0))) lay (tC x q C) nx :=
  zYe ⟨hk, fun z => absurd (h ▸ z) hf, fun _ => ⟨by rw [h]; exact hq.1, hq.2⟩⟩ (zbi_f (by rw [h]; exact hf)).symm
/-- a comparison whose left sum is S -/
noncomputable def qCmpR (T : Int → Int) (e : Int) (F : Int → Int) (S : Int × Int × Int) : Int × Int × Int :=
  if S.2.2 = -1 then
    (if qscan qbl T e S.2.1 < e ∧ T (qscan qbl T e S.2.1) = 60 then (zbi (S.1 < (qSum T e F (qscan qbl T e S.2.1 + 1) (-1)).1), (qSum T e F (qscan qbl T e S.2.1 + 1) (-1)).2)
     else if qscan qbl T e S.2.1 < e ∧ T (qscan qbl T e S.2.1) = 62 then (zbi ((qSum T e F (qscan qbl T e S.2.1 + 1) (-1)).1 < S.1), (qSum T e F (qscan qbl T e S.2.1 + 1) (-1)).2)
     else (0, qscan qbl T e S.2.1, qscan qbl T e S.2.1))
  else (0, S.2)
theorem qCmpR_q (T : Int → Int) (e : Int) (F : Int → Int) (b : Int) : qCmp T e F b = qCmpR T e F (qSum T e F b (-1)) := rfl
theorem qPart_sk {T : Int → Int} {e a : Int} {F : Int → Int} : qPart T e F (qscan qbl T e a) (-1) = qPart T e F a (-1) := by
  unfold qPart
  rw [if_pos rfl, if_pos rfl, qskip_idem]
theorem qSumN_x {T : Int → Int} {e v a f : Int} {F : Int → Int} (h : f ≠ -1) : ∀ k : Nat, qSumN T e F k v a f = (v, a, f) := by
  intro k
  cases k with
  | zero => rfl
  | succ k => unfold qSumN; rw [if_neg h]
theorem qSumN_t {T : Int → Int} {e v a : Int} {F : Int → Int} {k : Nat} (h : qscan qbl T e a < e ∧ T (qscan qbl T e a) = 43) : qSumN T e F (k + 1) v a (-1) = qSumN T e F k (v + (qPart T e F (qscan qbl T e a + 1) (-1)).1) (qPart T e F (qscan qbl T e a + 1) (-1)).2.1 (qPart T e F (qscan qbl T e a + 1) (-1)).2.2 := by
  show (if (-1 : Int) = -1 then _ else _) = _
  rw [if_pos rfl, if_pos h]
theorem qSumN_f {T : Int → Int} {e v a : Int} {F : Int → Int} {k : Nat} (h : ¬ (qscan qbl T e a < e ∧ T (qscan qbl T e a) = 43)) : qSumN T e F (k + 1) v a (-1) = (v, qscan qbl T e a, -1) := by
  show (if (-1 : Int) = -1 then _ else _) = _
  rw [if_pos rfl, if_neg h]
/-- the sum that goes on at a, v told so far (if w) -/
noncomputable def qSg (T : Int → Int) (e : Int) (F : Int → Int) (k : Nat) (w v a : Int) : Int × Int × Int :=
  qSumN T e F k (if w = 1 then v + (qPart T e F a (-1)).1 else (qPart T e F a (-1)).1) (qPart T e F a (-1)).2.1 (qPart T e F a (-1)).2.2
noncomputable def qCg (T : Int → Int) (e : Int) (F : Int → Int) (o cv u : Int) (S : Int × Int × Int) : Int × Int × Int := if o = 1 then (qJoin cv u S.1, S.2) else qCmpR T e F S
theorem zin_sm {v c : Int} (h : 0 ≤ v ∧ v ≤ 9999 * c) (hc : c ≤ 400) : zin v := ⟨by omega, by omega⟩
theorem qJoin_less (a c : Int) : qJoin 2001 a c = zbi (a < c) := by
  unfold qJoin zbi
  rw [if_neg (by decide), if_pos rfl]
  by_cases h : a < c
  · rw [if_pos h, if_pos h]
  · rw [if_neg h, if_neg h]
theorem qJoin_more (a c : Int) : qJoin 2002 a c = zbi (c < a) := by
  unfold qJoin zbi
  rw [if_neg (by decide), if_neg (by decide), if_pos rfl]
  by_cases h : c < a
  · rw [if_pos h, if_pos h]
  · rw [if_neg h, if_neg h]
theorem qCg_x {T : Int → Int} {e o cv u : Int} {F : Int → Int} {S : Int × Int × Int} (h : S.2.2 ≠ -1) : (qCg T e F o cv u S).2 = S.2 := by
  unfold qCg
  split
  · rfl
  · unfold qCmpR; rw [if_neg h]
theorem qPart_gt {T : Int → Int} {e a : Int} {F : Int → Int} (h : (qPart T e F a (-1)).2.2 = -1) (ha : 0 ≤ a ∧ a ≤ e) (he : e ≤ 400) (hT : ∀ k, 0 ≤ k → k < 400 → 0 ≤ T k) : a < (qPart T e F a (-1)).2.1 := by
  have hsk := qskip_bd (T := T) ha.2
  unfold qPart at h ⊢
  rw [if_pos rfl] at h ⊢
  by_cases c : qscan qbl T e a < e ∧ 48 ≤ T (qscan qbl T e a) ∧ T (qscan qbl T e a) ≤ 57
  · rw [if_pos c] at h ⊢
    rw [qFig_skip] at h ⊢
    have := qFig_gt h ha he hT
    omega
  · rw [if_neg c] at h ⊢
    unfold qPartW at h ⊢
    have key : ∀ {w : List Int} {x : Int × Int × Int} {y : Int × Int × Int}, (zif (qhas T e (qscan qbl T e a) w) x y).2.2 = -1 → a < x.2.1 → (y.2.2 = -1 → a < y.2.1) → a < (zif (qhas T e (qscan qbl T e a) w) x y).2.1 := by
      intro w x y h1 h2 h3
      by_cases z : qhas T e (qscan qbl T e a) w
      · rw [zif_t z]; exact h2
      · rw [zif_f z] at h1 ⊢; exact h3 h1
    refine key h (by dsimp only; omega) (fun h => key h (by dsimp only; omega) (fun h => key h (by dsimp only; omega) (fun h => key h (by dsimp only; omega) (fun h => key h (by dsimp only; omega) (fun h => key h (by dsimp only; omega) (fun h => key h (by dsimp only; omega) (fun h => ?_)))))))
    dsimp only at h
    omega
theorem c_X4_readComparison {G : zG} {lay : zLay} {s C0 : zMem} {nx x e a p : Int} {T : Int → Int} (hT : TopL lay x) (hX : TxC x s 295 T e) (ha : 0 ≤ a ∧ a ≤ e) (hL : LwA lay x p e) (hF : LwF C0 p) (hd : s 294 1 = p) (hl : 0 ≤ C0 p 4 ∧ C0 p 4 ≤ a) (hS : TxS lay C0)  : zMM G 8 KX4_readComparison [zP (x + 294)] lay (tC x (zTk s 295 T e a (-1)) C0) nx (0, 0) (zY' (some (zI (zbi (((fun F => qCmp T e F (qscan qbl T e a)) qFz).2.2 = -1)))) (zLd s T e p C0 a (21) (fun F => qCmp T e F (qscan qbl T e a))) lay nx x) := by
  refine z_met' (L := [zP (x + 294), zU, zU, zU]) gX4_readComparison.1 rfl rfl (Nat.le_of_ble_eq_true rfl) rfl ?_
  have hA := LxAt
  have hx := hT.1
  have hne : x + 294 ≠ -1 := by omega
  have he := hX.e0
  have hp0 := hL.p0
  have hpn : p ≠ -1 := by omega
  have hbd := qskip_bd (T := T) ha.2
  obtain ⟨B, hBq⟩ : ∃ B : (Int → Int) → Int × Int × Int, (fun F => qCmp T e F (qscan qbl T e a)) = B := ⟨_, rfl⟩
  rw [hBq]
  obtain ⟨Q, hQ⟩ : ∃ Q, zY' (some (zI (zbi ((B qFz).2.2 = -1)))) (zLd s T e p C0 a 21 B) lay nx x = Q := ⟨_, rfl⟩
  have hT0 : ∀ k, 0 ≤ k → k < 400 → 0 ≤ T k := fun k k0 k1 => (hX.bt k k0 k1).1
  have w6 : ∀ (N : Nat) (i a1 o cv w : Int) (u v : (Int → Int) → Int) (m k : Nat) (C : zMem), e - a1 ≤ N → 0 ≤ a1 ∧ a1 ≤ e → 0 ≤ i → 2 * i ≤ a1 → (o = 0 ∧ cv = -1) ∨ (o = 1 ∧ (cv = 2001 ∨ cv = 2002)) → (w = 0 ∨ w = 1) → zKC p e C0 C → C p 4 = C0 p 4 + m → (m : Int) + o + w ≤ a1 - a → qPre (C (p + 4)) (C0 p 4) m 21 o u w v → (∀ F, qFaOK F → 0 ≤ u F ∧ u F ≤ 9999 * a1) → (∀ F, qFaOK F → 0 ≤ v F ∧ v F ≤ 9999 * a1) → 401 ≤ k + a1 → (∀ F, B F = qCg T e F o cv (u F) (qSg T e F k w (v F) a1)) → zW G KX4_readComparison 8 Q 6 [zP (x + 294), zI cv, zI w, zI i] [] lay (tC x (zTk s 295 T e a1 (-1)) C) nx (0, 0) := by
    intro N
    induction N using Nat.strongRecOn with
    | _ N ih =>
      intro i a1 o cv w u v m k C hN ha1 hi0 hi hcv hw hK hm hmb hpre hu hv hk hB
      have hbd1 := qskip_bd (T := T) ha1.2
      have hC4 : 0 ≤ C p 4 ∧ C p 4 ≤ a1 := by omega
      have hPi : ∀ F, (qPart T e F a1 (-1)).2 = (qPart T e qFz a1 (-1)).2 := fun F => qPart_i F qFz a1 (-1)
      have w36 : ∀ (y2 : zAV) (a2 : Int) (v2 : (Int → Int) → Int) (m2 : Nat) (C2 : zMem), y2.1 ≠ 1 → a1 < a2 → a2 ≤ e → zKC p e C0 C2 → C2 p 4 = C0 p 4 + m2 → (m2 : Int) + o ≤ a2 - a → qPre (C2 (p + 4)) (C0 p 4) m2 21 o u 1 v2 → (∀ F, qFaOK F → 0 ≤ v2 F ∧ v2 F ≤ 9999 * a2) → (∀ F, B F = qCg T e F o cv (u F) (qSumN T e F k (v2 F) a2 (-1))) → zW G KX4_readComparison 8 Q 36 [zP (x + 294), zI cv, y2, zI i] [] lay (tC x (zTk s 295 T e a2 (-1)) C2) nx (0, 0) := by
        intro y2 a2 v2 m2 C2 hy hlt ha2 hK2 hm2 hmb2 hpre2 hv2 hB2
        have hbd2 := qskip_bd (T := T) ha2
        have hF2 := hK2.F hF
        obtain ⟨k', hk'⟩ : ∃ k' : Nat, k = k' + 1 := ⟨k - 1, by omega⟩
        subst hk'
        by_cases hp : qscan qbl T e a2 < e ∧ T (qscan qbl T e a2) = 43
        · have hp1 := hp.1
          refine z_al0 eX4_readComparison_36 hne ?_
          first | refine z_ta0 lX4_12 eX4_readComparison_37 rfl hT hA (by decide) rfl rfl ?_ | refine z_ta lX4_12 eX4_readComparison_37 rfl hT hA ⟨by decide, by decide⟩ rfl rfl ?_
          refine z_bipush eX4_readComparison_40 (by decide) ?_
          refine z_V1 eX4_readComparison_42 vX4_91 rfl rfl (Nat.le_of_ble_eq_true rfl) (Nat.le_of_ble_eq_true rfl) ((WdAt.b).L0 hT (by decide)) (c_X10_takeSign hT hX ⟨by omega, by omega⟩ (by decide) (by decide)) ?_
          rw [zif_zTk.1 hp, zbi_t hp]
          refine z_is2 eX4_readComparison_45 (Nat.ne_of_beq_eq_false rfl) ?_
          refine z_il2 eX4_readComparison_46 ?_
          refine z_if_eq (tgt := 53) eX4_readComparison_47 rfl ⟨by omega, by omega⟩ (fun h47 => (by exfalso; omega)) (fun h47 => ?_)
          refine z_goto eX4_readComparison_50 (tgt := 116) rfl ?_
          refine z_ii3 eX4_readComparison_116 (Nat.ne_of_beq_eq_false rfl) ?_
          refine z_goto eX4_readComparison_119 (tgt := 6) rfl ?_
          refine ih (e - (qscan qbl T e a2 + 1)).toNat (by omega) (i + 1) (qscan qbl T e a2 + 1) o cv 1 u v2 m2 k' C2 (by omega) ⟨by omega, by omega⟩ (by omega) (by omega) hcv (Or.inr rfl) hK2 hm2 (by omega) hpre2 (fun F hF9 => by have := hu F hF9; omega) (fun F hF9 => by have := hv2 F hF9; omega) (by omega) (fun F => ?_)
          rw [hB2 F, qSumN_t hp]; rfl
        · have hS2 : ∀ F, B F = qCg T e F o cv (u F) (v2 F, qscan qbl T e a2, -1) := fun F => by rw [hB2 F, qSumN_f hp]
          have hR2 : o = 0 → ∀ F, B F = (if qscan qbl T e a2 < e ∧ T (qscan qbl T e a2) = 60 then (zbi (v2 F < (qSum T e F (qscan qbl T e a2 + 1) (-1)).1), (qSum T e F (qscan qbl T e a2 + 1) (-1)).2) else if qscan qbl T e a2 < e ∧ T (qscan qbl T e a2) = 62 then (zbi ((qSum T e F (qscan qbl T e a2 + 1) (-1)).1 < v2 F), (qSum T e F (qscan qbl T e a2 + 1) (-1)).2) else (0, qscan qbl T e a2, qscan qbl T e a2)) := by
            intro z F
            rw [hS2 F]
            unfold qCg qCmpR
            rw [if_neg (by omega), if_pos rfl, qskip_idem]
          have hgo : ∀ cv', (cv' = 2001 ∨ cv' = 2002) → o = 0 → qscan qbl T e a2 < e → (∀ F, B F = (qJoin cv' (v2 F) (qSum T e F (qscan qbl T e a2 + 1) (-1)).1, (qSum T e F (qscan qbl T e a2 + 1) (-1)).2)) → zW G KX4_readComparison 8 Q 6 [zP (x + 294), zI cv', zI 0, zI (i + 1)] [] lay (tC x (zTk s 295 T e (qscan qbl T e a2 + 1) (-1)) C2) nx (0, 0) := by
            intro cv' hcv' ho hlt2 hB3
            subst ho
            refine ih (e - (qscan qbl T e a2 + 1)).toNat (by omega) (i + 1) (qscan qbl T e a2 + 1) 1 cv' 0 v2 v2 m2 401 C2 (by omega) ⟨by omega, by omega⟩ (by omega) (by omega) (Or.inr ⟨rfl, hcv'⟩) (Or.inl rfl) hK2 hm2 (by omega) hpre2.fin0.pre (fun F hF9 => by have := hv2 F hF9; omega) (fun F hF9 => by have := hv2 F hF9; omega) (by omega) (fun F => ?_)
            rw [hB3 F]
            unfold qCg qSg qSum
            rw [if_pos rfl, if_neg (by decide)]
          refine z_al0 eX4_readComparison_36 hne ?_
          first | refine z_ta0 lX4_12 eX4_readComparison_37 rfl hT hA (by decide) rfl rfl ?_ | refine z_ta lX4_12 eX4_readComparison_37 rfl hT hA ⟨by decide, by decide⟩ rfl rfl ?_
          first | rw [zTk_o (by decide), hd] | skip
          refine z_bipush eX4_readComparison_40 (by decide) ?_
          refine z_V1 eX4_readComparison_42 vX4_91 rfl rfl (Nat.le_of_ble_eq_true rfl) (Nat.le_of_ble_eq_true rfl) ((WdAt.b).L0 hT (by decide)) (c_X10_takeSign hT hX ⟨by omega, by omega⟩ (by decide) (by decide)) ?_
          first | rw [zTk_o (by decide), hd] | skip
          rw [zif_zTk.2 hp, zbi_f hp]
          refine z_is2 eX4_readComparison_45 (Nat.ne_of_beq_eq_false rfl) ?_
          refine z_il2 eX4_readComparison_46 ?_
          refine z_if_eq (tgt := 53) eX4_readComparison_47 rfl ⟨by omega, by omega⟩ (fun h47 => ?_) (fun h47 => (by exfalso; omega))
          refine z_il1 eX4_readComparison_53 ?_
          refine z_iconst eX4_readComparison_54 ?_
          refine z_icmp_eq (tgt := 68) eX4_readComparison_55 rfl ⟨⟨by omega, by omega⟩, ⟨by omega, by omega⟩⟩ (fun h55 => ?_) (fun h55 => ?_)
          · have ho : o = 0 := by omega
            refine z_al0 eX4_readComparison_68 hne ?_
            first | refine z_ta0 lX4_12 eX4_readComparison_69 rfl hT hA (by decide) rfl rfl ?_ | refine z_ta lX4_12 eX4_readComparison_69 rfl hT hA ⟨by decide, by decide⟩ rfl rfl ?_
            first | rw [zTk_o (by decide), hd] | skip
            refine z_bipush eX4_readComparison_72 (by decide) ?_
            refine z_V1 eX4_readComparison_74 vX4_88 rfl rfl (Nat.le_of_ble_eq_true rfl) (Nat.le_of_ble_eq_true rfl) ((WdAt.b).L0 hT (by decide)) (c_X10_atSign hT hX ⟨by omega, by omega⟩ (by decide) (by decide)) ?_
            first | rw [zTk_o (by decide), hd] | skip
            refine z_ifb_eq (tgt := 86) eX4_readComparison_77 rfl (fun h77 => ?_) (fun h77 => ?_)
            · refine z_sipush eX4_readComparison_86 (by decide) ?_
              refine z_is1 eX4_readComparison_89 (Nat.ne_of_beq_eq_false rfl) ?_
              refine z_al0 eX4_readComparison_90 hne ?_
              first | refine z_ta0 lX4_12 eX4_readComparison_91 rfl hT hA (by decide) rfl rfl ?_ | refine z_ta lX4_12 eX4_readComparison_91 rfl hT hA ⟨by decide, by decide⟩ rfl rfl ?_
              first | rw [zTk_o (by decide), hd] | skip
              refine z_bipush eX4_readComparison_94 (by decide) ?_
              refine z_V1 eX4_readComparison_96 vX4_91 rfl rfl (Nat.le_of_ble_eq_true rfl) (Nat.le_of_ble_eq_true rfl) ((WdAt.b).L0 hT (by decide)) (c_X10_takeSign hT hX ⟨by omega, by omega⟩ (by decide) (by decide)) ?_
              first | rw [zTk_o (by decide), hd] | skip
              refine z_ifk_ne (tgt := 116) eX4_readComparison_99 rfl (fun h99 => ?_) (fun h99 => ?_)
              · have hw99 := qsgn_pos h99 ⟨by omega, by omega⟩
                refine z_ii3 eX4_readComparison_116 (Nat.ne_of_beq_eq_false rfl) ?_
                refine z_goto eX4_readComparison_119 (tgt := 6) rfl ?_
                first | exact absurd h77 h99 | exact absurd h99 h77 | exact hgo 2002 (Or.inr rfl) ho h111.1 (fun F => by rw [hR2 ho F, if_neg h77, if_pos h111, qJoin_more]) | exact hgo 2001 (Or.inl rfl) ho h77.1 (fun F => by rw [hR2 ho F, if_pos h77, qJoin_less])
              · refine z_al0 eX4_readComparison_102 hne ?_
                first | refine z_ta0 lX4_12 eX4_readComparison_103 rfl hT hA (by decide) rfl rfl ?_ | refine z_ta lX4_12 eX4_readComparison_103 rfl hT hA ⟨by decide, by decide⟩ rfl rfl ?_
                first | rw [zTk_o (by decide), hd] | skip
                refine z_bipush eX4_readComparison_106 (by decide) ?_
                refine z_V1 eX4_readComparison_108 vX4_57 rfl rfl (Nat.le_of_ble_eq_true rfl) (Nat.le_of_ble_eq_true rfl) ((WdAt.b).L0 hT (by decide)) (c_X10_needSign hT hX ⟨by omega, by omega⟩ (by decide) (by decide) rfl) ?_
                first | rw [zTk_o (by decide), hd] | skip
                refine z_ifk_ne (tgt := 116) eX4_readComparison_111 rfl (fun h111 => ?_) (fun h111 => ?_)
                · have hw111 := qsgn_pos h111 ⟨by omega, by omega⟩
                  refine z_ii3 eX4_readComparison_116 (Nat.ne_of_beq_eq_false rfl) ?_
                  refine z_goto eX4_readComparison_119 (tgt := 6) rfl ?_
                  first | exact absurd h77 h99 | exact absurd h99 h77 | exact hgo 2002 (Or.inr rfl) ho h111.1 (fun F => by rw [hR2 ho F, if_neg h77, if_pos h111, qJoin_more]) | exact hgo 2001 (Or.inl rfl) ho h77.1 (fun F => by rw [hR2 ho F, if_pos h77, qJoin_less])
                · refine z_iconst eX4_readComparison_114 ?_
                  refine z_zreturn eX4_readComparison_115 rfl (by first | exact Or.inl rfl | exact Or.inr rfl | exact zbi_01 _ | assumption | omega) ?_
                  first | exact absurd h77 h99 | (rw [← hQ]; exact zLdf (B := B) (C := C2) (by rw [hR2 ho, if_neg h77, if_neg h111]) (by omega) hK2)
            · refine z_sipush eX4_readComparison_80 (by decide) ?_
              refine z_goto eX4_readComparison_83 (tgt := 89) rfl ?_
              refine z_is1 eX4_readComparison_89 (Nat.ne_of_beq_eq_false rfl) ?_
              refine z_al0 eX4_readComparison_90 hne ?_
              first | refine z_ta0 lX4_12 eX4_readComparison_91 rfl hT hA (by decide) rfl rfl ?_ | refine z_ta lX4_12 eX4_readComparison_91 rfl hT hA ⟨by decide, by decide⟩ rfl rfl ?_
              first | rw [zTk_o (by decide), hd] | skip
              refine z_bipush eX4_readComparison_94 (by decide) ?_
              refine z_V1 eX4_readComparison_96 vX4_91 rfl rfl (Nat.le_of_ble_eq_true rfl) (Nat.le_of_ble_eq_true rfl) ((WdAt.b).L0 hT (by decide)) (c_X10_takeSign hT hX ⟨by omega, by omega⟩ (by decide) (by decide)) ?_
              first | rw [zTk_o (by decide), hd] | skip
              refine z_ifk_ne (tgt := 116) eX4_readComparison_99 rfl (fun h99 => ?_) (fun h99 => ?_)
              · have hw99 := qsgn_pos h99 ⟨by omega, by omega⟩
                refine z_ii3 eX4_readComparison_116 (Nat.ne_of_beq_eq_false rfl) ?_
                refine z_goto eX4_readComparison_119 (tgt := 6) rfl ?_
                first | exact absurd h77 h99 | exact absurd h99 h77 | exact hgo 2002 (Or.inr rfl) ho h111.1 (fun F => by rw [hR2 ho F, if_neg h77, if_pos h111, qJoin_more]) | exact hgo 2001 (Or.inl rfl) ho h77.1 (fun F => by rw [hR2 ho F, if_pos h77, qJoin_less])
              · refine z_al0 eX4_readComparison_102 hne ?_
                first | refine z_ta0 lX4_12 eX4_readComparison_103 rfl hT hA (by decide) rfl rfl ?_ | refine z_ta lX4_12 eX4_readComparison_103 rfl hT hA ⟨by decide, by decide⟩ rfl rfl ?_
                first | rw [zTk_o (by decide), hd] | skip
                refine z_bipush eX4_readComparison_106 (by decide) ?_
                refine z_V1 eX4_readComparison_108 vX4_57 rfl rfl (Nat.le_of_ble_eq_true rfl) (Nat.le_of_ble_eq_true rfl) ((WdAt.b).L0 hT (by decide)) (c_X10_needSign hT hX ⟨by omega, by omega⟩ (by decide) (by decide) rfl) ?_
                first | rw [zTk_o (by decide), hd] | skip
                refine z_ifk_ne (tgt := 116) eX4_readComparison_111 rfl (fun h111 => ?_) (fun h111 => ?_)
                · have hw111 := qsgn_pos h111 ⟨by omega, by omega⟩
                  refine z_ii3 eX4_readComparison_116 (Nat.ne_of_beq_eq_false rfl) ?_
                  refine z_goto eX4_readComparison_119 (tgt := 6) rfl ?_
                  first | exact absurd h77 h99 | exact absurd h99 h77 | exact hgo 2002 (Or.inr rfl) ho h111.1 (fun F => by rw [hR2 ho F, if_neg h77, if_pos h111, qJoin_more]) | exact hgo 2001 (Or.inl rfl) ho h77.1 (fun F => by rw [hR2 ho F, if_pos h77, qJoin_less])
                · refine z_iconst eX4_readComparison_114 ?_
                  refine z_zreturn eX4_readComparison_115 rfl (by first | exact Or.inl rfl | exact Or.inr rfl | exact zbi_01 _ | assumption | omega) ?_
                  first | exact absurd h77 h99 | (rw [← hQ]; exact zLdf (B := B) (C := C2) (by rw [hR2 ho, if_neg h77, if_neg h111]) (by omega) hK2)
          · refine z_al0 eX4_readComparison_58 hne ?_
            first | refine z_td0 (j := 1) lX4_23 eX4_readComparison_59 rfl hT hA (by decide) rfl rfl rfl ?_ | refine z_td (j := 1) lX4_23 eX4_readComparison_59 rfl hT hA ⟨by decide, by decide⟩ rfl rfl rfl ?_
            first | rw [zTk_o (by decide), hd] | skip
            refine z_il1 eX4_readComparison_62 ?_
            refine z_V1v eX4_readComparison_63 vX4_76 rfl rfl (Nat.le_of_ble_eq_true rfl) (Nat.le_of_ble_eq_true rfl) hL.l0 (c_X3_addStep hT hL hF2 ⟨by omega, by omega⟩) ?_
            first | rw [zTk_o (by decide), hd] | skip
            refine z_iconst eX4_readComparison_66 ?_
            refine z_zreturn eX4_readComparison_67 rfl (by first | exact Or.inl rfl | exact Or.inr rfl | exact zbi_01 _ | assumption | omega) ?_
            have ho : o = 1 := by omega
            rw [← hQ]
            have hS3 : ∀ F, B F = (qJoin cv (u F) (v2 F), qscan qbl T e a2, -1) := fun F => by rw [hS2 F]; unfold qCg; rw [if_pos ho]
            subst ho
            have hcd := (hpre2.cg (P' := zStp C2 p cv (p + 4)) (fun j j0 j1 => zStp.o (by omega))).fin1 (op := cv) (by decide) (by rw [← hm2]; exact zStp.v) (by omega) (fun F hF9 => zin_sm (hu F hF9) (by omega)) (fun F hF9 => zin_sm (hv2 F hF9) (by omega))
            refine zLdt (B := B) (tb := 21) (m := m2 + 1) (C := zStp C2 p cv) (by rw [hS3]) (by rw [hS3]; exact qskip_idem) (hK2.trans (zStp.k (by omega))) (by rw [hS3]; dsimp only; omega) (by rw [zStp.n]; omega) ?_
            simp only [hS3]
            exact hcd
      refine z_il3 eX4_readComparison_6 ?_
      refine z_sipush eX4_readComparison_7 (by decide) ?_
      refine z_icmp_ge (tgt := 122) eX4_readComparison_10 rfl ⟨⟨by omega, by omega⟩, ⟨by omega, by omega⟩⟩ (fun h10 => (by exfalso; omega)) (fun h10 => ?_)
      refine z_al0 eX4_readComparison_13 hne ?_
      refine z_V0y eX4_readComparison_14 vX4_107 rfl rfl (Nat.le_of_ble_eq_true rfl) (Nat.le_of_ble_eq_true rfl) ((hA).L0 hT (by decide)) (c_X4_readPart hT hX ha1 hL (hK.F hF) hd hC4 (hK.S hp0 hS)) (fun s14 C14 hs14 => ?_)
      first | rw [zTk_o (by decide), hd] | skip
      refine z_ifb_ne (tgt := 22) eX4_readComparison_17 rfl (fun h17 => ?_) (fun h17 => ?_)
      · obtain ⟨e1, m1, k1, k2, k3⟩ := hs14.2.1 h17
        subst e1
        replace k1 : (m1 : Int) ≤ (qPart T e qFz a1 (-1)).2.1 - a1 := k1
        replace k3 : qCode (C14 (p + 4)) (C p 4) m1 23 (fun F => (qPart T e F a1 (-1)).1) := k3
        have hs4 := hs14.1
        have hgt := qPart_gt (T := T) (F := qFz) h17 ha1 he.2 hT0
        have hab := qPart_bd (T := T) (e := e) (F := qFz) qFz_ok.1 (a := a1) (f := -1) ⟨ha1.1, ha1.2, by decide, by decide⟩ he.2 hT0
        have hle : (qPart T e qFz a1 (-1)).2.1 ≤ e := hab.1.2.1
        have hP1 : ∀ F, (qPart T e F a1 (-1)).2.1 = (qPart T e qFz a1 (-1)).2.1 := fun F => by rw [hPi F]
        have hP2 : ∀ F, (qPart T e F a1 (-1)).2.2 = -1 := fun F => by rw [hPi F]; exact h17
        have hPb : ∀ F, qFaOK F → 0 ≤ (qPart T e F a1 (-1)).1 ∧ (qPart T e F a1 (-1)).1 ≤ 9999 := fun F hF9 => (qPart_bd (T := T) (e := e) (F := F) hF9.1 (a := a1) (f := -1) ⟨ha1.1, ha1.2, by decide, by decide⟩ he.2 hT0).2.1
        have hpr := hpre.cg (P' := C14 (p + 4)) (fun j j0 j1 => hs4.2.2.1 j (by omega))
        rw [hm] at k2 k3
        have hF4 := (hK.trans hs4).F hF
        refine z_il2 eX4_readComparison_22 ?_
        refine z_if_eq (tgt := 36) eX4_readComparison_23 rfl ⟨by omega, by omega⟩ (fun h23 => ?_) (fun h23 => ?_)
        · by_cases hz9 : w = 0
          · first | exact absurd hz9 h23 | (subst hz9; exact w36 _ (qPart T e qFz a1 (-1)).2.1 (fun F => (qPart T e F a1 (-1)).1) (m + m1) C14 (Nat.ne_of_beq_eq_false rfl) (by omega) hab.1.2.1 (hK.trans hs4) (by omega) (by omega) (hpr.atom (by omega) k3 (by decide)) (fun F hF9 => by have := hPb F hF9; omega) (fun F => by rw [hB F]; unfold qSg; rw [if_neg (by decide), hP1 F, hP2 F]))
          · first | exact absurd h23 hz9 | (have hw1 : w = 1 := (by omega); subst hw1; have hst := zStp.k (C := C14) (p := p) (e := e) (v := 2000) (by omega); exact w36 _ (qPart T e qFz a1 (-1)).2.1 (fun F => v F + (qPart T e F a1 (-1)).1) (m + m1 + 1) (zStp C14 p 2000) (Nat.ne_of_beq_eq_false rfl) (by omega) hab.1.2.1 ((hK.trans hs4).trans hst) (by rw [zStp.n]; omega) (by omega) ((hpr.cg (P' := zStp C14 p 2000 (p + 4)) (fun j j0 j1 => zStp.o (by omega))).join (op := 2000) (by omega) (k3.cg (P' := zStp C14 p 2000 (p + 4)) (fun j j0 j1 => zStp.o (by omega))) (by decide) (by decide) (by rw [← k2]; exact zStp.v) (by decide) (fun F hF9 => zin_sm (hv F hF9) (by omega)) (fun F hF9 => ⟨by have := hPb F hF9; omega, by have := hPb F hF9; omega⟩)) (fun F hF9 => by have := hPb F hF9; have := hv F hF9; omega) (fun F => by rw [hB F]; unfold qSg; rw [if_pos rfl, hP1 F, hP2 F]))
        · refine z_al0 eX4_readComparison_26 hne ?_
          first | refine z_td0 (j := 1) lX4_23 eX4_readComparison_27 rfl hT hA (by decide) rfl rfl rfl ?_ | refine z_td (j := 1) lX4_23 eX4_readComparison_27 rfl hT hA ⟨by decide, by decide⟩ rfl rfl rfl ?_
          first | rw [zTk_o (by decide), hd] | skip
          refine z_sipush eX4_readComparison_30 (by decide) ?_
          refine z_V1v eX4_readComparison_33 vX4_76 rfl rfl (Nat.le_of_ble_eq_true rfl) (Nat.le_of_ble_eq_true rfl) hL.l0 (c_X3_addStep hT hL hF4 ⟨by omega, by omega⟩) ?_
          first | rw [zTk_o (by decide), hd] | skip
          by_cases hz9 : w = 0
          · first | exact absurd hz9 h23 | (subst hz9; exact w36 _ (qPart T e qFz a1 (-1)).2.1 (fun F => (qPart T e F a1 (-1)).1) (m + m1) C14 (Nat.ne_of_beq_eq_false rfl) (by omega) hab.1.2.1 (hK.trans hs4) (by omega) (by omega) (hpr.atom (by omega) k3 (by decide)) (fun F hF9 => by have := hPb F hF9; omega) (fun F => by rw [hB F]; unfold qSg; rw [if_neg (by decide), hP1 F, hP2 F]))
          · first | exact absurd h23 hz9 | (have hw1 : w = 1 := (by omega); subst hw1; have hst := zStp.k (C := C14) (p := p) (e := e) (v := 2000) (by omega); exact w36 _ (qPart T e qFz a1 (-1)).2.1 (fun F => v F + (qPart T e F a1 (-1)).1) (m + m1 + 1) (zStp C14 p 2000) (Nat.ne_of_beq_eq_false rfl) (by omega) hab.1.2.1 ((hK.trans hs4).trans hst) (by rw [zStp.n]; omega) (by omega) ((hpr.cg (P' := zStp C14 p 2000 (p + 4)) (fun j j0 j1 => zStp.o (by omega))).join (op := 2000) (by omega) (k3.cg (P' := zStp C14 p 2000 (p + 4)) (fun j j0 j1 => zStp.o (by omega))) (by decide) (by decide) (by rw [← k2]; exact zStp.v) (by decide) (fun F hF9 => zin_sm (hv F hF9) (by omega)) (fun F hF9 => ⟨by have := hPb F hF9; omega, by have := hPb F hF9; omega⟩)) (fun F hF9 => by have := hPb F hF9; have := hv F hF9; omega) (fun F => by rw [hB F]; unfold qSg; rw [if_pos rfl, hP1 F, hP2 F]))
      · refine z_iconst eX4_readComparison_20 ?_
        refine z_zreturn eX4_readComparison_21 rfl (by first | exact Or.inl rfl | exact Or.inr rfl | exact zbi_01 _ | assumption | omega) ?_
        rw [← hQ]
        exact zLdg (B := B) (f := (qPart T e qFz a1 (-1)).2.2) (by rw [hB qFz, qCg_x (by unfold qSg; rw [qSumN_x h17]; exact h17)]; unfold qSg; rw [qSumN_x h17]) h17 (hK.trans hs14.1) (hs14.2.2 h17)
  rw [hQ]
  refine z_iconst eX4_readComparison_0 ?_
  refine z_is1 eX4_readComparison_1 (Nat.ne_of_beq_eq_false rfl) ?_
  refine z_iconst eX4_readComparison_2 ?_
  refine z_is2 eX4_readComparison_3 (Nat.ne_of_beq_eq_false rfl) ?_
  refine z_iconst eX4_readComparison_4 ?_
  refine z_is3 eX4_readComparison_5 (Nat.ne_of_beq_eq_false rfl) ?_
  exact w6 (e - a).toNat 0 a 0 (-1) 0 (fun _ => 0) (fun _ => 0) 0 401 C0 (by omega) ha (by decide) (by omega) (Or.inl ⟨rfl, rfl⟩) (Or.inl rfl) (zKC.refl (by omega)) (by omega) (by omega) qPre.nil (fun F _ => ⟨by decide, by omega⟩) (fun F _ => ⟨by decide, by omega⟩) (by omega) (fun F => by rw [← hBq]; dsimp only; rw [qCmpR_q]; unfold qCg qSg qSum; rw [if_neg (by decide), if_neg (by decide), qPart_sk])
