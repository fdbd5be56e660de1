/-! A text of the law: atoms. -/
theorem c_plain {G : zG} {D : Nat} {lay : zLay} {nx x e p a d tb : Int} {T : Int → Int} {s C0 : zMem} {B : (Int → Int) → Int × Int × Int} {y2 : zAV} (hD : 10 ≤ D) (hT : TopL lay x) (hX : TxC x s 295 T e) (ha : 0 ≤ a ∧ a ≤ e) (hL : LwA lay x p e) (hF : LwF C0 p) (hd : s 294 1 = p) (hl : 0 ≤ C0 p 4 ∧ C0 p 4 ≤ a) (hS : TxS lay C0) (htb : tb ≤ 21) (hB : ∀ F, B F = qPlain T e F (F 7) (F 9) (qscan qbl T e a)) : zW G KX4_readAtom D (zY' (some (zI (zbi ((B qFz).2.2 = -1)))) (zLd s T e p C0 a tb B) lay nx x) 124 [zP (x + 294), zI d, y2] [] lay (tC x (zTk s 295 T e a (-1)) C0) nx (0, 0) := by
  have hA := LxAt
  have hx := hT.1
  have hne : x + 294 ≠ -1 := by omega
  have he := hX.e0
  have hp0 := hL.p0
  have hpn : p ≠ -1 := by omega
  have hbd := qskip_bd (T := T) ha.2
  refine z_al0 eX4_readAtom_124 hne ?_
  refine z_ldcS (t := 32) eX4_readAtom_125 rfl rfl rfl (by rw [(hS 32 _ rfl).1]) ?_
  refine z_bipush eX4_readAtom_127 (by decide) ?_
  refine z_tkf (t := 32) (wd := qw_hat) (n := 3) eX4_readAtom_129 vX4_96 rfl rfl (by omega) (Nat.le_of_ble_eq_true rfl) hT hX ⟨by omega, by omega⟩ hL hF hd ⟨by omega, by omega⟩ hS rfl rfl (by decide) (by decide) (fun h129 => ?_) (fun h129 => ?_)
  · refine z_if_ne (tgt := 164) eX4_readAtom_132 rfl ⟨by omega, by omega⟩ (fun h132 => ?_) (fun h132 => (by exfalso; omega))
    refine z_iconst eX4_readAtom_164 ?_
    refine z_goto eX4_readAtom_165 (tgt := 169) rfl ?_
    refine z_zreturn eX4_readAtom_169 rfl (by first | exact Or.inl rfl | exact Or.inr rfl | exact zbi_01 _ | assumption | omega) ?_
    have hk1 := qhas_pos (n := 3) h129 rfl (by decide) ha
    have hB1 : ∀ F, B F = (F 7, qscan qbl T e a + 3, -1) := fun F => by rw [hB F]; unfold qPlain; rw [zif_t h129]
    refine zLdt (B := B) (m := 1) (C := zStp C0 p (1000 + 7)) (by rw [hB1]) (by rw [hB1]) (zStp.k (by omega)) (by rw [hB1]; dsimp only; omega) zStp.n ?_
    simp only [hB1]
    exact (qCode.fact (f := 7) zStp.v (by decide)).low (by omega)
  · refine z_if_ne (tgt := 164) eX4_readAtom_132 rfl ⟨by omega, by omega⟩ (fun h132 => (by exfalso; omega)) (fun h132 => ?_)
    refine z_al0 eX4_readAtom_135 hne ?_
    refine z_ldcS (t := 33) eX4_readAtom_136 rfl rfl rfl (by rw [(hS 33 _ rfl).1]) ?_
    refine z_bipush eX4_readAtom_138 (by decide) ?_
    refine z_tkf (t := 33) (wd := qw_wet) (n := 3) eX4_readAtom_140 vX4_96 rfl rfl (by omega) (Nat.le_of_ble_eq_true rfl) hT hX ⟨by omega, by omega⟩ hL hF hd ⟨by omega, by omega⟩ hS rfl rfl (by decide) (by decide) (fun h140 => ?_) (fun h140 => ?_)
    · refine z_if_ne (tgt := 164) eX4_readAtom_143 rfl ⟨by omega, by omega⟩ (fun h143 => ?_) (fun h143 => (by exfalso; omega))
      refine z_iconst eX4_readAtom_164 ?_
      refine z_goto eX4_readAtom_165 (tgt := 169) rfl ?_
      refine z_zreturn eX4_readAtom_169 rfl (by first | exact Or.inl rfl | exact Or.inr rfl | exact zbi_01 _ | assumption | omega) ?_
      have hk1 := qhas_pos (n := 3) h140 rfl (by decide) ha
      have hB1 : ∀ F, B F = (zbi (1 < F 3), qscan qbl T e a + 3, -1) := fun F => by rw [hB F]; unfold qPlain; rw [zif_f h129, zif_t h140]
      refine zLdt (B := B) (m := 1) (C := zStp C0 p (1000 + 8)) (by rw [hB1]) (by rw [hB1]) (zStp.k (by omega)) (by rw [hB1]; dsimp only; omega) zStp.n ?_
      simp only [hB1]
      exact ((qCode.fact (f := 8) zStp.v (by decide)).low (by omega)).ev (fun F hF9 => hF9.2.2.2)
    · refine z_if_ne (tgt := 164) eX4_readAtom_143 rfl ⟨by omega, by omega⟩ (fun h143 => (by exfalso; omega)) (fun h143 => ?_)
      refine z_al0 eX4_readAtom_146 hne ?_
      refine z_ldcS (t := 34) eX4_readAtom_147 rfl rfl rfl (by rw [(hS 34 _ rfl).1]) ?_
      refine z_bipush eX4_readAtom_149 (by decide) ?_
      refine z_tkf (t := 34) (wd := qw_mover) (n := 5) eX4_readAtom_151 vX4_96 rfl rfl (by omega) (Nat.le_of_ble_eq_true rfl) hT hX ⟨by omega, by omega⟩ hL hF hd ⟨by omega, by omega⟩ hS rfl rfl (by decide) (by decide) (fun h151 => ?_) (fun h151 => ?_)
      · refine z_if_ne (tgt := 164) eX4_readAtom_154 rfl ⟨by omega, by omega⟩ (fun h154 => ?_) (fun h154 => (by exfalso; omega))
        refine z_iconst eX4_readAtom_164 ?_
        refine z_goto eX4_readAtom_165 (tgt := 169) rfl ?_
        refine z_zreturn eX4_readAtom_169 rfl (by first | exact Or.inl rfl | exact Or.inr rfl | exact zbi_01 _ | assumption | omega) ?_
        have hk1 := qhas_pos (n := 5) h151 rfl (by decide) ha
        have hB1 : ∀ F, B F = (F 9, qscan qbl T e a + 5, -1) := fun F => by rw [hB F]; unfold qPlain; rw [zif_f h129, zif_f h140, zif_t h151]
        refine zLdt (B := B) (m := 1) (C := zStp C0 p (1000 + 9)) (by rw [hB1]) (by rw [hB1]) (zStp.k (by omega)) (by rw [hB1]; dsimp only; omega) zStp.n ?_
        simp only [hB1]
        exact (qCode.fact (f := 9) zStp.v (by decide)).low (by omega)
      · refine z_if_ne (tgt := 164) eX4_readAtom_154 rfl ⟨by omega, by omega⟩ (fun h154 => (by exfalso; omega)) (fun h154 => ?_)
        refine z_al0 eX4_readAtom_157 hne ?_
        refine z_V0y eX4_readAtom_158 vX4_104 rfl rfl (by omega) (Nat.le_of_ble_eq_true rfl) ((hA).L0 hT (by decide)) (c_X4_readComparison hT hX ha hL hF hd hl hS) (fun s158 C158 hs158 => ?_)
        refine z_ifb_eq (tgt := 168) eX4_readAtom_161 rfl (fun h161 => ?_) (fun h161 => ?_)
        · refine z_iconst eX4_readAtom_168 ?_
          refine z_zreturn eX4_readAtom_169 rfl (by first | exact Or.inl rfl | exact Or.inr rfl | exact zbi_01 _ | assumption | omega) ?_
          have hB1 : ∀ F, B F = qCmp T e F (qscan qbl T e a) := fun F => by rw [hB F]; unfold qPlain; rw [zif_f h129, zif_f h140, zif_f h151]
          have hq9 := hs158.to (B' := B) (Int.le_refl a) htb hB1
          first | exact zYe hq9 (zbi_t (by rw [hB1]; exact h161)).symm | exact zYe hq9 (zbi_f (by rw [hB1]; exact h161)).symm
        · refine z_iconst eX4_readAtom_164 ?_
          refine z_goto eX4_readAtom_165 (tgt := 169) rfl ?_
          refine z_zreturn eX4_readAtom_169 rfl (by first | exact Or.inl rfl | exact Or.inr rfl | exact zbi_01 _ | assumption | omega) ?_
          have hB1 : ∀ F, B F = qCmp T e F (qscan qbl T e a) := fun F => by rw [hB F]; unfold qPlain; rw [zif_f h129, zif_f h140, zif_f h151]
          have hq9 := hs158.to (B' := B) (Int.le_refl a) htb hB1
          first | exact zYe hq9 (zbi_t (by rw [hB1]; exact h161)).symm | exact zYe hq9 (zbi_f (by rw [hB1]; exact h161)).symm
theorem c_atom0 {G : zG} {lay : zLay} {nx x e p : Int} {T : Int → Int} (hT : TopL lay x) (hL : LwA lay x p e) : zAtomOK G 10 lay nx x e p T 0 := by
  intro s C0 a hX ha hF hd hl hS
  refine z_met' (L := [zP (x + 294), zI (6 - (0 : Nat)), zU]) gX4_readAtom.1 rfl rfl (Nat.le_of_ble_eq_true rfl) rfl ?_
  have hA := LxAt
  have hx := hT.1
  have hne : x + 294 ≠ -1 := by omega
  have he := hX.e0
  have hbd := qskip_bd (T := T) ha.2
  obtain ⟨B, hBq⟩ : ∃ B : (Int → Int) → Int × Int × Int, (fun F => qAtom T e F (F 7) (F 9) 0 a) = B := ⟨_, rfl⟩
  have hB : ∀ F, B F = zif (qhas T e (qscan qbl T e a) qw_not) (0, qscan qbl T e a + 3, qscan qbl T e a) (if qscan qbl T e a < e ∧ T (qscan qbl T e a) = 40 then (0, qscan qbl T e a, qscan qbl T e a) else qPlain T e F (F 7) (F 9) (qscan qbl T e a)) := fun F => by rw [← hBq]; rfl
  rw [show (qAtom T e qFz (qFz 7) (qFz 9) 0 a) = B qFz by rw [← hBq], hBq]
  refine z_al0 eX4_readAtom_0 hne ?_
  first | refine z_ta0 lX4_12 eX4_readAtom_1 rfl hT hA (by decide) rfl rfl ?_ | refine z_ta lX4_12 eX4_readAtom_1 rfl hT hA ⟨by decide, by decide⟩ rfl rfl ?_
  refine z_ldcS (t := 31) eX4_readAtom_4 rfl rfl rfl (by rw [(hS 31 _ rfl).1]) ?_
  refine z_V1 eX4_readAtom_6 vX4_85 rfl rfl (by omega) (Nat.le_of_ble_eq_true rfl) ((WdAt.b).L0 hT (by decide)) (c_X10_atWord hT hX ⟨by omega, by omega⟩ hS (t := 31) (wd := qw_not) (n := 3) rfl rfl (by decide)) ?_
  refine z_ifb_ne (tgt := 24) eX4_readAtom_9 rfl (fun h9 => ?_) (fun h9 => ?_)
  · refine z_iconst eX4_readAtom_24 ?_
    refine z_goto eX4_readAtom_25 (tgt := 29) rfl ?_
    refine z_is2 eX4_readAtom_29 (Nat.ne_of_beq_eq_false rfl) ?_
    refine z_il2 eX4_readAtom_30 ?_
    refine z_if_eq (tgt := 48) eX4_readAtom_31 rfl ⟨by omega, by omega⟩ (fun h31 => (by exfalso; omega)) (fun h31 => ?_)
    refine z_il1 eX4_readAtom_34 ?_
    refine z_bipush eX4_readAtom_35 (by decide) ?_
    refine z_icmp_lt (tgt := 48) eX4_readAtom_37 rfl ⟨⟨by omega, by omega⟩, ⟨by omega, by omega⟩⟩ (fun h37 => (by exfalso; omega)) (fun h37 => ?_)
    refine z_al0 eX4_readAtom_40 hne ?_
    first | refine z_ta0 lX4_12 eX4_readAtom_41 rfl hT hA (by decide) rfl rfl ?_ | refine z_ta lX4_12 eX4_readAtom_41 rfl hT hA ⟨by decide, by decide⟩ rfl rfl ?_
    refine z_V0 eX4_readAtom_44 vX4_61 rfl rfl (by omega) (Nat.le_of_ble_eq_true rfl) ((WdAt.b).L0 hT (by decide)) (c_X10_fail hT hX ⟨by omega, by omega⟩ (by decide)) ?_
    rw [if_pos rfl]
    refine z_zreturn eX4_readAtom_47 rfl (by first | exact Or.inl rfl | exact Or.inr rfl | exact zbi_01 _ | assumption | omega) ?_
    first | exact zLdf (B := B) (C := C0) (by rw [hB, zif_t h9]) (by omega) (zKC.refl (by omega)) | exact zLdf (B := B) (C := C0) (by rw [hB, zif_f h9, if_pos h21]) (by omega) (zKC.refl (by omega))
  · refine z_al0 eX4_readAtom_12 hne ?_
    first | refine z_ta0 lX4_12 eX4_readAtom_13 rfl hT hA (by decide) rfl rfl ?_ | refine z_ta lX4_12 eX4_readAtom_13 rfl hT hA ⟨by decide, by decide⟩ rfl rfl ?_
    refine z_bipush eX4_readAtom_16 (by decide) ?_
    refine z_V1 eX4_readAtom_18 vX4_88 rfl rfl (by omega) (Nat.le_of_ble_eq_true rfl) ((WdAt.b).L0 hT (by decide)) (c_X10_atSign hT hX ⟨by omega, by omega⟩ (by decide) (by decide)) ?_
    refine z_ifb_eq (tgt := 28) eX4_readAtom_21 rfl (fun h21 => ?_) (fun h21 => ?_)
    · refine z_iconst eX4_readAtom_28 ?_
      refine z_is2 eX4_readAtom_29 (Nat.ne_of_beq_eq_false rfl) ?_
      refine z_il2 eX4_readAtom_30 ?_
      refine z_if_eq (tgt := 48) eX4_readAtom_31 rfl ⟨by omega, by omega⟩ (fun h31 => ?_) (fun h31 => (by exfalso; omega))
      refine z_al0 eX4_readAtom_48 hne ?_
      first | refine z_ta0 lX4_12 eX4_readAtom_49 rfl hT hA (by decide) rfl rfl ?_ | refine z_ta lX4_12 eX4_readAtom_49 rfl hT hA ⟨by decide, by decide⟩ rfl rfl ?_
      refine z_ldcS (t := 31) eX4_readAtom_52 rfl rfl rfl (by rw [(hS 31 _ rfl).1]) ?_
      refine z_V1 eX4_readAtom_54 vX4_45 rfl rfl (by omega) (Nat.le_of_ble_eq_true rfl) ((WdAt.b).L0 hT (by decide)) (c_X10_takeWord hT hX ⟨by omega, by omega⟩ hS (t := 31) (wd := qw_not) (n := 3) rfl rfl (by decide)) ?_
      refine z_ifk_eq (tgt := 84) eX4_readAtom_57 rfl (fun h57 => ?_) (fun h57 => ?_)
      · refine z_al0 eX4_readAtom_84 hne ?_
        first | refine z_ta0 lX4_12 eX4_readAtom_85 rfl hT hA (by decide) rfl rfl ?_ | refine z_ta lX4_12 eX4_readAtom_85 rfl hT hA ⟨by decide, by decide⟩ rfl rfl ?_
        refine z_bipush eX4_readAtom_88 (by decide) ?_
        refine z_V1 eX4_readAtom_90 vX4_91 rfl rfl (by omega) (Nat.le_of_ble_eq_true rfl) ((WdAt.b).L0 hT (by decide)) (c_X10_takeSign hT hX ⟨by omega, by omega⟩ (by decide) (by decide)) ?_
        refine z_ifk_eq (tgt := 124) eX4_readAtom_93 rfl (fun h93 => ?_) (fun h93 => ?_)
        · exact c_plain (by decide) hT hX ha hL hF hd hl hS (by decide) (fun F => by rw [hB F, zif_f h9, if_neg h21])
        · have hw93 := qsgn_pos h93 ⟨by omega, by omega⟩
          exact absurd h93 h21
      · have hw57 := qhas_pos (wd := qw_not) (n := 3) h57 rfl (by decide) ⟨by omega, by omega⟩
        exact absurd h57 h9
    · refine z_iconst eX4_readAtom_24 ?_
      refine z_goto eX4_readAtom_25 (tgt := 29) rfl ?_
      refine z_is2 eX4_readAtom_29 (Nat.ne_of_beq_eq_false rfl) ?_
      refine z_il2 eX4_readAtom_30 ?_
      refine z_if_eq (tgt := 48) eX4_readAtom_31 rfl ⟨by omega, by omega⟩ (fun h31 => (by exfalso; omega)) (fun h31 => ?_)
      refine z_il1 eX4_readAtom_34 ?_
      refine z_bipush eX4_readAtom_35 (by decide) ?_
      refine z_icmp_lt (tgt := 48) eX4_readAtom_37 rfl ⟨⟨by omega, by omega⟩, ⟨by omega, by omega⟩⟩ (fun h37 => (by exfalso; omega)) (fun h37 => ?_)
      refine z_al0 eX4_readAtom_40 hne ?_
      first | refine z_ta0 lX4_12 eX4_readAtom_41 rfl hT hA (by decide) rfl rfl ?_ | refine z_ta lX4_12 eX4_readAtom_41 rfl hT hA ⟨by decide, by decide⟩ rfl rfl ?_
      refine z_V0 eX4_readAtom_44 vX4_61 rfl rfl (by omega) (Nat.le_of_ble_eq_true rfl) ((WdAt.b).L0 hT (by decide)) (c_X10_fail hT hX ⟨by omega, by omega⟩ (by decide)) ?_
      rw [if_pos rfl]
      refine z_zreturn eX4_readAtom_47 rfl (by first | exact Or.inl rfl | exact Or.inr rfl | exact zbi_01 _ | assumption | omega) ?_
      first | exact zLdf (B := B) (C := C0) (by rw [hB, zif_t h9]) (by omega) (zKC.refl (by omega)) | exact zLdf (B := B) (C := C0) (by rw [hB, zif_f h9, if_pos h21]) (by omega) (zKC.refl (by omega))
theorem c_atomS {G : zG} {DA : Nat} {lay : zLay} {nx x e p : Int} {T : Int → Int} {n : Nat} (hn6 : n + 1 ≤ 6) (hDA : 10 ≤ DA) (hT : TopL lay x) (hL : LwA lay x p e) (hAt : zAtomOK G DA lay nx x e p T n) : zAtomOK G (DA + 2) lay nx x e p T (n + 1) := by
  intro s C0 a hX ha hF hd hl hS
  refine z_met' (L := [zP (x + 294), zI (6 - (n + 1 : Nat)), zU]) gX4_readAtom.1 rfl rfl (Nat.le_of_ble_eq_true rfl) rfl ?_
  have hA := LxAt
  have hx := hT.1
  have hne : x + 294 ≠ -1 := by omega
  have he := hX.e0
  have hp0 := hL.p0
  have hpn : p ≠ -1 := by omega
  have hbd := qskip_bd (T := T) ha.2
  have hT0 : ∀ k, 0 ≤ k → k < 400 → 0 ≤ T k := fun k k0 k1 => (hX.bt k k0 k1).1
  have hd1 : (6 : Int) - ((n + 1 : Nat) : Int) + 1 = 6 - (n : Int) := by omega
  obtain ⟨B, hBq⟩ : ∃ B : (Int → Int) → Int × Int × Int, (fun F => qAtom T e F (F 7) (F 9) (n + 1) a) = B := ⟨_, rfl⟩
  have hB : ∀ F, B F = zif (qhas T e (qscan qbl T e a) qw_not) (1 - (qAtom T e F (F 7) (F 9) n (qscan qbl T e a + 3)).1, (qAtom T e F (F 7) (F 9) n (qscan qbl T e a + 3)).2) (if qscan qbl T e a < e ∧ T (qscan qbl T e a) = 40 then qBrk T e (qSm T e (qAtom T e F (F 7) (F 9) n) (qscan qbl T e a + 1)) else qPlain T e F (F 7) (F 9) (qscan qbl T e a)) := fun F => by rw [← hBq]; rfl
  rw [show (qAtom T e qFz (qFz 7) (qFz 9) (n + 1) a) = B qFz by rw [← hBq], hBq]
  obtain ⟨Q, hQ⟩ : ∃ Q, zY' (some (zI (zbi ((B qFz).2.2 = -1)))) (zLd s T e p C0 a (21 - 2 * (n + 1 : Nat)) B) lay nx x = Q := ⟨_, rfl⟩
  have w48n : qhas T e (qscan qbl T e a) qw_not → ∀ y2 : zAV, zW G KX4_readAtom (DA + 2) Q 48 [zP (x + 294), zI (6 - (n + 1 : Nat)), y2] [] lay (tC x (zTk s 295 T e a (-1)) C0) nx (0, 0) := by
    intro hnot y2
    have hk1 := qhas_pos (n := 3) hnot rfl (by decide) ha
    have hat := hAt s C0 (qscan qbl T e a + 3) hX ⟨by omega, by omega⟩ hF hd ⟨hl.1, by omega⟩ hS
    have hB1 : ∀ F, B F = (1 - (qAtom T e F (F 7) (F 9) n (qscan qbl T e a + 3)).1, (qAtom T e F (F 7) (F 9) n (qscan qbl T e a + 3)).2) := fun F => by rw [hB F, zif_t hnot]
    obtain ⟨A, hA9⟩ : ∃ A : (Int → Int) → Int × Int × Int, (fun F => qAtom T e F (F 7) (F 9) n (qscan qbl T e a + 3)) = A := ⟨_, rfl⟩
    have hAF : ∀ F, qAtom T e F (F 7) (F 9) n (qscan qbl T e a + 3) = A F := fun F => by rw [← hA9]
    have hqc := (qAtom_bd (T := T) (e := e) qFz_ok.1 (H := qFz 7) (V := qFz 9) (Or.inl rfl) (Or.inl rfl) he.2 hT0 n (qscan qbl T e a + 3) (by omega) (by omega)).1.2.2.1
    simp only [hAF] at hat hB1 hqc
    change zMM _ _ _ _ _ _ _ _ (zY' _ (zLd _ _ _ _ _ _ _ A) _ _ _) at hat
    refine z_al0 eX4_readAtom_48 hne ?_
    first | refine z_ta0 lX4_12 eX4_readAtom_49 rfl hT hA (by decide) rfl rfl ?_ | refine z_ta lX4_12 eX4_readAtom_49 rfl hT hA ⟨by decide, by decide⟩ rfl rfl ?_
    first | rw [zTk_o (by decide), hd] | skip
    refine z_ldcS (t := 31) eX4_readAtom_52 rfl rfl rfl (by rw [(hS 31 _ rfl).1]) ?_
    refine z_V1 eX4_readAtom_54 vX4_45 rfl rfl (by omega) (Nat.le_of_ble_eq_true rfl) ((WdAt.b).L0 hT (by decide)) (c_X10_takeWord hT hX ⟨by omega, by omega⟩ hS (t := 31) (wd := qw_not) (n := 3) rfl rfl (by decide)) ?_
    first | rw [zTk_o (by decide), hd] | skip
    refine z_ifk_eq (tgt := 84) eX4_readAtom_57 rfl (fun h57 => ?_) (fun h57 => ?_)
    · exact absurd hnot h57
    · have hw57 := qhas_pos (wd := qw_not) (n := 3) h57 rfl (by decide) ⟨by omega, by omega⟩
      refine z_al0 eX4_readAtom_60 hne ?_
      refine z_il1 eX4_readAtom_61 ?_
      refine z_iconst eX4_readAtom_62 ?_
      refine z_iadd eX4_readAtom_63 ?_
      rw [hd1]
      refine z_V1y eX4_readAtom_64 vX4_73 rfl rfl (by omega) (Nat.le_of_ble_eq_true rfl) ((hA).L0 hT (by decide)) (hat ) (fun s64 C64 hs64 => ?_)
      first | rw [zTk_o (by decide), hd] | skip
      refine z_ifb_ne (tgt := 72) eX4_readAtom_67 rfl (fun h67 => ?_) (fun h67 => ?_)
      · obtain ⟨e1, m1, k1, k2, k3⟩ := hs64.2.1 h67
        subst e1
        replace k1 : (m1 : Int) ≤ (A qFz).2.1 - (qscan qbl T e a + 3) := k1
        have hle := hqc h67
        have hF4 := hs64.1.F hF
        refine z_al0 eX4_readAtom_72 hne ?_
        first | refine z_td0 (j := 1) lX4_23 eX4_readAtom_73 rfl hT hA (by decide) rfl rfl rfl ?_ | refine z_td (j := 1) lX4_23 eX4_readAtom_73 rfl hT hA ⟨by decide, by decide⟩ rfl rfl rfl ?_
        first | rw [zTk_o (by decide), hd] | skip
        refine z_sipush eX4_readAtom_76 (by decide) ?_
        refine z_V1v eX4_readAtom_79 vX4_76 rfl rfl (by omega) (Nat.le_of_ble_eq_true rfl) hL.l0 (c_X3_addStep hT hL hF4 ⟨by omega, by omega⟩) ?_
        first | rw [zTk_o (by decide), hd] | skip
        refine z_iconst eX4_readAtom_82 ?_
        refine z_zreturn eX4_readAtom_83 rfl (by first | exact Or.inl rfl | exact Or.inr rfl | exact zbi_01 _ | assumption | omega) ?_
        rw [← hQ]
        refine zLdt (B := B) (m := m1 + 1) (C := zStp C64 p 2005) (by rw [hB1]; exact h67) (by rw [hB1]) (hs64.1.trans (zStp.k (by omega))) (by rw [hB1]; dsimp only; omega) (by rw [zStp.n]; omega) ?_
        simp only [hB1]
        exact ((k3.cg (P' := zStp C64 p 2005 (p + 4)) (fun j j0 j1 => zStp.o (by omega))).not (by rw [← k2]; exact zStp.v) (by omega)).low (by omega)
      · refine z_iconst eX4_readAtom_70 ?_
        refine z_zreturn eX4_readAtom_71 rfl (by first | exact Or.inl rfl | exact Or.inr rfl | exact zbi_01 _ | assumption | omega) ?_
        rw [← hQ]
        exact zLdg (B := B) (f := (A qFz).2.2) (by rw [hB1 qFz]) h67 hs64.1 (hs64.2.2 h67)
  have w48b : ¬ qhas T e (qscan qbl T e a) qw_not → (qscan qbl T e a < e ∧ T (qscan qbl T e a) = 40) → ∀ y2 : zAV, zW G KX4_readAtom (DA + 2) Q 48 [zP (x + 294), zI (6 - (n + 1 : Nat)), y2] [] lay (tC x (zTk s 295 T e a (-1)) C0) nx (0, 0) := by
    intro hnn hpar y2
    have hlt := hpar.1
    have hcd := c_X4_readCondition (G := G) (by omega) hDA hAt hT hX (a := qscan qbl T e a + 1) ⟨by omega, by omega⟩ hL hF hd ⟨hl.1, by omega⟩ hS
    have hB1 : ∀ F, B F = qBrk T e (qSm T e (qAtom T e F (F 7) (F 9) n) (qscan qbl T e a + 1)) := fun F => by rw [hB F, zif_f hnn, if_pos hpar]
    have hqc := (qSm_bd (T := T) (e := e) (n := n) (by omega) (fun a a0 a1 => qAtom_bd (T := T) (e := e) qFz_ok.1 (H := qFz 7) (V := qFz 9) (Or.inl rfl) (Or.inl rfl) he.2 hT0 n a a0 a1) (qscan qbl T e a + 1) (by omega) (by omega)).1.2.2.1
    have hqg := (qSm_bd (T := T) (e := e) (n := n) (by omega) (fun a a0 a1 => qAtom_bd (T := T) (e := e) qFz_ok.1 (H := qFz 7) (V := qFz 9) (Or.inl rfl) (Or.inl rfl) he.2 hT0 n a a0 a1) (qscan qbl T e a + 1) (by omega) (by omega)).2.2
    have hSi : ∀ F, (qSm T e (qAtom T e F (F 7) (F 9) n) (qscan qbl T e a + 1)).2 = (qSm T e (qAtom T e qFz (qFz 7) (qFz 9) n) (qscan qbl T e a + 1)).2 := fun F => qSm_i (fun a => qAtom_i F qFz (F 7) (qFz 7) (F 9) (qFz 9) n a) _
    obtain ⟨A, hA9⟩ : ∃ A : (Int → Int) → Int × Int × Int, (fun F => qSm T e (qAtom T e F (F 7) (F 9) n) (qscan qbl T e a + 1)) = A := ⟨_, rfl⟩
    have hAF : ∀ F, qSm T e (qAtom T e F (F 7) (F 9) n) (qscan qbl T e a + 1) = A F := fun F => by rw [← hA9]
    simp only [hAF] at hcd hB1 hqc hqg hSi
    change zMM _ _ _ _ _ _ _ _ (zY' _ (zLd _ _ _ _ _ _ _ A) _ _ _) at hcd
    refine z_al0 eX4_readAtom_48 hne ?_
    first | refine z_ta0 lX4_12 eX4_readAtom_49 rfl hT hA (by decide) rfl rfl ?_ | refine z_ta lX4_12 eX4_readAtom_49 rfl hT hA ⟨by decide, by decide⟩ rfl rfl ?_
    refine z_ldcS (t := 31) eX4_readAtom_52 rfl rfl rfl (by rw [(hS 31 _ rfl).1]) ?_
    refine z_V1 eX4_readAtom_54 vX4_45 rfl rfl (by omega) (Nat.le_of_ble_eq_true rfl) ((WdAt.b).L0 hT (by decide)) (c_X10_takeWord hT hX ⟨by omega, by omega⟩ hS (t := 31) (wd := qw_not) (n := 3) rfl rfl (by decide)) ?_
    refine z_ifk_eq (tgt := 84) eX4_readAtom_57 rfl (fun h57 => ?_) (fun h57 => ?_)
    · refine z_al0 eX4_readAtom_84 hne ?_
      first | refine z_ta0 lX4_12 eX4_readAtom_85 rfl hT hA (by decide) rfl rfl ?_ | refine z_ta lX4_12 eX4_readAtom_85 rfl hT hA ⟨by decide, by decide⟩ rfl rfl ?_
      refine z_bipush eX4_readAtom_88 (by decide) ?_
      refine z_V1 eX4_readAtom_90 vX4_91 rfl rfl (by omega) (Nat.le_of_ble_eq_true rfl) ((WdAt.b).L0 hT (by decide)) (c_X10_takeSign hT hX ⟨by omega, by omega⟩ (by decide) (by decide)) ?_
      refine z_ifk_eq (tgt := 124) eX4_readAtom_93 rfl (fun h93 => ?_) (fun h93 => ?_)
      · exact absurd hpar h93
      · have hw93 := qsgn_pos h93 ⟨by omega, by omega⟩
        refine z_al0 eX4_readAtom_96 hne ?_
        refine z_il1 eX4_readAtom_97 ?_
        refine z_iconst eX4_readAtom_98 ?_
        refine z_iadd eX4_readAtom_99 ?_
        rw [hd1]
        refine z_V1y eX4_readAtom_100 vX4_49 rfl rfl (by omega) (Nat.le_of_ble_eq_true rfl) ((hA).L0 hT (by decide)) (hcd ) (fun s100 C100 hs100 => ?_)
        refine z_ifb_eq (tgt := 122) eX4_readAtom_103 rfl (fun h103 => ?_) (fun h103 => ?_)
        · refine z_iconst eX4_readAtom_122 ?_
          refine z_zreturn eX4_readAtom_123 rfl (by first | exact Or.inl rfl | exact Or.inr rfl | exact zbi_01 _ | assumption | omega) ?_
          rw [← hQ]
          by_cases hz9 : (A qFz).2.2 = -1
          · first | exact absurd hz9 h103 | (have hB2 : ∀ F, B F = ((A F).1, qscan qbl T e (A qFz).2.1 + 1, -1) := fun F => (by rw [hB1 F]; unfold qBrk; rw [if_pos (hP2 F), hP1 F, if_pos h115]); refine zLdt (B := B) (m := m1) (C := C100) (by rw [hB2]) (by rw [hB2]) hs100.1 (by rw [hB2]; dsimp only; omega) k2 ?_; simp only [hB2]; exact k3.low (by omega)) | exact zLdf (B := B) (C := C100) (by rw [hB1 qFz]; unfold qBrk; rw [if_pos hz9, if_neg h115]) (by omega) hs100.1
          · first | exact absurd h103 hz9 | exact zLdg (B := B) (f := (A qFz).2.2) (by rw [hB1 qFz]; unfold qBrk; rw [if_neg hz9]) hz9 hs100.1 (hs100.2.2 hz9)
        · obtain ⟨e1, m1, k1, k2, k3⟩ := hs100.2.1 h103
          subst e1
          replace k1 : (m1 : Int) ≤ (A qFz).2.1 - (qscan qbl T e a + 1) := k1
          have hle := hqc h103
          have hP1 : ∀ F, (A F).2.1 = (A qFz).2.1 := fun F => by rw [hSi F]
          have hP2 : ∀ F, (A F).2.2 = -1 := fun F => by rw [hSi F]; exact h103
          have hbd9 := qskip_bd (T := T) hle
          refine z_al0 eX4_readAtom_106 hne ?_
          first | refine z_ta0 lX4_12 eX4_readAtom_107 rfl hT hA (by decide) rfl rfl ?_ | refine z_ta lX4_12 eX4_readAtom_107 rfl hT hA ⟨by decide, by decide⟩ rfl rfl ?_
          refine z_bipush eX4_readAtom_110 (by decide) ?_
          refine z_V1 eX4_readAtom_112 vX4_57 rfl rfl (by omega) (Nat.le_of_ble_eq_true rfl) ((WdAt.b).L0 hT (by decide)) (c_X10_needSign hT hX ⟨by omega, by omega⟩ (by decide) (by decide) rfl) ?_
          refine z_ifk_eq (tgt := 122) eX4_readAtom_115 rfl (fun h115 => ?_) (fun h115 => ?_)
          · refine z_iconst eX4_readAtom_122 ?_
            refine z_zreturn eX4_readAtom_123 rfl (by first | exact Or.inl rfl | exact Or.inr rfl | exact zbi_01 _ | assumption | omega) ?_
            rw [← hQ]
            by_cases hz9 : (A qFz).2.2 = -1
            · first | exact absurd hz9 h103 | (have hB2 : ∀ F, B F = ((A F).1, qscan qbl T e (A qFz).2.1 + 1, -1) := fun F => (by rw [hB1 F]; unfold qBrk; rw [if_pos (hP2 F), hP1 F, if_pos h115]); refine zLdt (B := B) (m := m1) (C := C100) (by rw [hB2]) (by rw [hB2]) hs100.1 (by rw [hB2]; dsimp only; omega) k2 ?_; simp only [hB2]; exact k3.low (by omega)) | exact zLdf (B := B) (C := C100) (by rw [hB1 qFz]; unfold qBrk; rw [if_pos hz9, if_neg h115]) (by omega) hs100.1
            · first | exact absurd h103 hz9 | exact zLdg (B := B) (f := (A qFz).2.2) (by rw [hB1 qFz]; unfold qBrk; rw [if_neg hz9]) hz9 hs100.1 (hs100.2.2 hz9)
          · have hw115 := qsgn_pos h115 ⟨by omega, by omega⟩
            refine z_iconst eX4_readAtom_118 ?_
            refine z_goto eX4_readAtom_119 (tgt := 123) rfl ?_
            refine z_zreturn eX4_readAtom_123 rfl (by first | exact Or.inl rfl | exact Or.inr rfl | exact zbi_01 _ | assumption | omega) ?_
            rw [← hQ]
            by_cases hz9 : (A qFz).2.2 = -1
            · first | exact absurd hz9 h103 | (have hB2 : ∀ F, B F = ((A F).1, qscan qbl T e (A qFz).2.1 + 1, -1) := fun F => (by rw [hB1 F]; unfold qBrk; rw [if_pos (hP2 F), hP1 F, if_pos h115]); refine zLdt (B := B) (m := m1) (C := C100) (by rw [hB2]) (by rw [hB2]) hs100.1 (by rw [hB2]; dsimp only; omega) k2 ?_; simp only [hB2]; exact k3.low (by omega)) | exact zLdf (B := B) (C := C100) (by rw [hB1 qFz]; unfold qBrk; rw [if_pos hz9, if_neg h115]) (by omega) hs100.1
            · first | exact absurd h103 hz9 | exact zLdg (B := B) (f := (A qFz).2.2) (by rw [hB1 qFz]; unfold qBrk; rw [if_neg hz9]) hz9 hs100.1 (hs100.2.2 hz9)
    · have hw57 := qhas_pos (wd := qw_not) (n := 3) h57 rfl (by decide) ⟨by omega, by omega⟩
      exact absurd h57 hnn
  have w48z : ¬ qhas T e (qscan qbl T e a) qw_not → ¬ (qscan qbl T e a < e ∧ T (qscan qbl T e a) = 40) → ∀ y2 : zAV, zW G KX4_readAtom (DA + 2) Q 48 [zP (x + 294), zI (6 - (n + 1 : Nat)), y2] [] lay (tC x (zTk s 295 T e a (-1)) C0) nx (0, 0) := by
    intro hnn hpn2 y2
    refine z_al0 eX4_readAtom_48 hne ?_
    first | refine z_ta0 lX4_12 eX4_readAtom_49 rfl hT hA (by decide) rfl rfl ?_ | refine z_ta lX4_12 eX4_readAtom_49 rfl hT hA ⟨by decide, by decide⟩ rfl rfl ?_
    refine z_ldcS (t := 31) eX4_readAtom_52 rfl rfl rfl (by rw [(hS 31 _ rfl).1]) ?_
    refine z_V1 eX4_readAtom_54 vX4_45 rfl rfl (by omega) (Nat.le_of_ble_eq_true rfl) ((WdAt.b).L0 hT (by decide)) (c_X10_takeWord hT hX ⟨by omega, by omega⟩ hS (t := 31) (wd := qw_not) (n := 3) rfl rfl (by decide)) ?_
    refine z_ifk_eq (tgt := 84) eX4_readAtom_57 rfl (fun h57 => ?_) (fun h57 => ?_)
    · refine z_al0 eX4_readAtom_84 hne ?_
      first | refine z_ta0 lX4_12 eX4_readAtom_85 rfl hT hA (by decide) rfl rfl ?_ | refine z_ta lX4_12 eX4_readAtom_85 rfl hT hA ⟨by decide, by decide⟩ rfl rfl ?_
      refine z_bipush eX4_readAtom_88 (by decide) ?_
      refine z_V1 eX4_readAtom_90 vX4_91 rfl rfl (by omega) (Nat.le_of_ble_eq_true rfl) ((WdAt.b).L0 hT (by decide)) (c_X10_takeSign hT hX ⟨by omega, by omega⟩ (by decide) (by decide)) ?_
      refine z_ifk_eq (tgt := 124) eX4_readAtom_93 rfl (fun h93 => ?_) (fun h93 => ?_)
      · rw [← hQ]; exact c_plain (by omega) hT hX ha hL hF hd hl hS (by omega) (fun F => by rw [hB F, zif_f hnn, if_neg hpn2])
      · have hw93 := qsgn_pos h93 ⟨by omega, by omega⟩
        exact absurd h93 hpn2
    · have hw57 := qhas_pos (wd := qw_not) (n := 3) h57 rfl (by decide) ⟨by omega, by omega⟩
      exact absurd h57 hnn
  rw [hQ]
  refine z_al0 eX4_readAtom_0 hne ?_
  first | refine z_ta0 lX4_12 eX4_readAtom_1 rfl hT hA (by decide) rfl rfl ?_ | refine z_ta lX4_12 eX4_readAtom_1 rfl hT hA ⟨by decide, by decide⟩ rfl rfl ?_
  refine z_ldcS (t := 31) eX4_readAtom_4 rfl rfl rfl (by rw [(hS 31 _ rfl).1]) ?_
  refine z_V1 eX4_readAtom_6 vX4_85 rfl rfl (by omega) (Nat.le_of_ble_eq_true rfl) ((WdAt.b).L0 hT (by decide)) (c_X10_atWord hT hX ⟨by omega, by omega⟩ hS (t := 31) (wd := qw_not) (n := 3) rfl rfl (by decide)) ?_
  refine z_ifb_ne (tgt := 24) eX4_readAtom_9 rfl (fun h9 => ?_) (fun h9 => ?_)
  · refine z_iconst eX4_readAtom_24 ?_
    refine z_goto eX4_readAtom_25 (tgt := 29) rfl ?_
    refine z_is2 eX4_readAtom_29 (Nat.ne_of_beq_eq_false rfl) ?_
    refine z_il2 eX4_readAtom_30 ?_
    refine z_if_eq (tgt := 48) eX4_readAtom_31 rfl ⟨by omega, by omega⟩ (fun h31 => (by exfalso; omega)) (fun h31 => ?_)
    refine z_il1 eX4_readAtom_34 ?_
    refine z_bipush eX4_readAtom_35 (by decide) ?_
    refine z_icmp_lt (tgt := 48) eX4_readAtom_37 rfl ⟨⟨by omega, by omega⟩, ⟨by omega, by omega⟩⟩ (fun h37 => ?_) (fun h37 => (by exfalso; omega))
    first | exact w48n h9 _ | exact w48b h9 h21 _ | exact w48z h9 h21 _
  · refine z_al0 eX4_readAtom_12 hne ?_
    first | refine z_ta0 lX4_12 eX4_readAtom_13 rfl hT hA (by decide) rfl rfl ?_ | refine z_ta lX4_12 eX4_readAtom_13 rfl hT hA ⟨by decide, by decide⟩ rfl rfl ?_
    refine z_bipush eX4_readAtom_16 (by decide) ?_
    refine z_V1 eX4_readAtom_18 vX4_88 rfl rfl (by omega) (Nat.le_of_ble_eq_true rfl) ((WdAt.b).L0 hT (by decide)) (c_X10_atSign hT hX ⟨by omega, by omega⟩ (by decide) (by decide)) ?_
    refine z_ifb_eq (tgt := 28) eX4_readAtom_21 rfl (fun h21 => ?_) (fun h21 => ?_)
    · refine z_iconst eX4_readAtom_28 ?_
      refine z_is2 eX4_readAtom_29 (Nat.ne_of_beq_eq_false rfl) ?_
      refine z_il2 eX4_readAtom_30 ?_
      refine z_if_eq (tgt := 48) eX4_readAtom_31 rfl ⟨by omega, by omega⟩ (fun h31 => ?_) (fun h31 => (by exfalso; omega))
      first | exact w48n h9 _ | exact w48b h9 h21 _ | exact w48z h9 h21 _
    · refine z_iconst eX4_readAtom_24 ?_
      refine z_goto eX4_readAtom_25 (tgt := 29) rfl ?_
      refine z_is2 eX4_readAtom_29 (Nat.ne_of_beq_eq_false rfl) ?_
      refine z_il2 eX4_readAtom_30 ?_
      refine z_if_eq (tgt := 48) eX4_readAtom_31 rfl ⟨by omega, by omega⟩ (fun h31 => (by exfalso; omega)) (fun h31 => ?_)
      refine z_il1 eX4_readAtom_34 ?_
      refine z_bipush eX4_readAtom_35 (by decide) ?_
      refine z_icmp_lt (tgt := 48) eX4_readAtom_37 rfl ⟨⟨by omega, by omega⟩, ⟨by omega, by omega⟩⟩ (fun h37 => ?_) (fun h37 => (by exfalso; omega))
      first | exact w48n h9 _ | exact w48b h9 h21 _ | exact w48z h9 h21 _
