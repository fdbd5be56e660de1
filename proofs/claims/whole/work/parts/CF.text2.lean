/-! A text of the coast, read. -/
theorem qCoastLine_sk {T : Int → Int} {e a : Int} {M : Int → Int} : qCoastLine T e M (qscan qbl T e a) = qCoastLine T e M a := by
  unfold qCoastLine
  rw [qskip_idem]
theorem qReadN_sk {T : Int → Int} {e a n : Int} {M : Int → Int} {k : Nat} : qReadN T e (k + 1) n M a = qReadN T e (k + 1) n M (qscan qbl T e a) := by
  unfold qReadN
  rw [qskip_idem]
/-- what is left unchanged by a text of the coast -/
def zTxK (σ s : zMem) : Prop := ∀ i, i ≠ 274 → ¬ (276 ≤ i ∧ i < 294) → s i = σ i
theorem c_X0_readText {G : zG} {lay : zLay} {σ C0 : zMem} {nx x e : Int} {M : Int → Int} (hT : TopL lay x) (hS : TxS lay C0) (hN : CoN σ 2 M) (hM : zOC M) (he : 0 ≤ e ∧ e ≤ 400) (hb : ∀ i, 0 ≤ i → i < 400 → 0 ≤ σ 1 i ∧ σ 1 i ≤ 255) : zMM G 11 KX0_readText [zP (x + 273), zP (x + (0 + 1)), zI e, zP (x + 2)] lay (tC x σ C0) nx (0, 0) (zZ' (some (zI (zbi ((qRead (σ 1) e M 0).2.2.2 = -1)))) (fun q => q 274 0 = (qRead (σ 1) e M 0).2.2.2 ∧ zTxK σ q ∧ ((qRead (σ 1) e M 0).2.2.2 = -1 → CoN q 276 (qRead (σ 1) e M 0).2.1 ∧ q 276 10 = σ 2 10 ∧ zOC (qRead (σ 1) e M 0).2.1)) lay C0 nx x) := by
  refine z_met' (L := [zP (x + 273), zP (x + (0 + 1)), zI e, zP (x + 2), zU]) gX0_readText.1 rfl rfl (Nat.le_of_ble_eq_true rfl) rfl ?_
  have hA := CxAt
  have hD := isCo.draft
  have hx := hT.1
  have hne : x + 273 ≠ -1 := by omega
  have hT0 : ∀ k, 0 ≤ k → k < 400 → 0 ≤ σ 1 k := fun k k0 k1 => (hb k k0 k1).1
  obtain ⟨T, hTT⟩ : ∃ T, σ 1 = T := ⟨_, rfl⟩
  rw [hTT] at hb hT0 ⊢
  obtain ⟨R, hR⟩ : ∃ R, qRead T e M 0 = R := ⟨_, rfl⟩
  obtain ⟨Q, hQ⟩ : ∃ Q, zZ' (some (zI (zbi (R.2.2.2 = -1)))) (fun q => q 274 0 = R.2.2.2 ∧ zTxK σ q ∧ (R.2.2.2 = -1 → CoN q 276 R.2.1 ∧ q 276 10 = σ 2 10 ∧ zOC R.2.1)) lay C0 nx x = Q := ⟨_, rfl⟩
  rw [hR, hQ]
  have hgood : ∀ (S : zMem) (a : Int) (M' : Int → Int), R.2.2.2 = -1 → R.2.1 = M' → CoN S 276 M' → zOC M' → zTxK σ S → S 276 10 = σ 2 10 → Q (.inl (some (zI 1))) lay (tC x (zTk S 274 T e a (-1)) C0) nx := by
    intro S a M' h1 h2 h3 h4 h5 h6
    rw [← hQ]
    refine zZe ⟨by rw [zTk_0, h1], fun i i1 i2 => by rw [zTk_o i1]; exact h5 i i1 i2, fun _ => ⟨?_, by rw [zTk_o (by decide)]; exact h6, by rw [h2]; exact h4⟩⟩ (zbi_t h1).symm
    rw [h2]
    exact h3.far (fun i i0 i1 => zTk_o (by omega))
  have hbad : ∀ (S : zMem) (f : Int), R.2.2.2 = f → 0 ≤ f → S 274 0 = f → zTxK σ S → Q (.inl (some (zI 0))) lay (tC x S C0) nx := by
    intro S f h1 h2 h3 h4
    rw [← hQ]
    exact zZe ⟨by rw [h3, h1], h4, fun z => absurd z (by omega)⟩ (zbi_f (by omega)).symm
  have w32 : ∀ (k : Nat) (n a : Int) (M' : Int → Int) (S : zMem), n + k = 15 → 0 ≤ n → n ≤ 14 → 0 ≤ a ∧ a ≤ e → TxC x S 274 T e → CoN S 276 M' → zOC M' → zTxK σ S → S 276 10 = σ 2 10 → qReadN T e k n M' a = R → zW G KX0_readText 11 Q 32 [zP (x + 273), zP (x + (0 + 1)), zI e, zP (x + 2), zI n] [] lay (tC x (zTk S 274 T e a (-1)) C0) nx (0, 0) := by
    intro k
    induction k with
    | zero => intro n a M' S h1 h2 h3; omega
    | succ k ih =>
      intro n a M' S h1 h2 h3 ha hX h4 h5 h6 h7 h8
      have hsk := qskip_bd (T := T) ha.2
      unfold qReadN at h8
      dsimp only at h8
      by_cases c : n = 14
      · rw [if_pos c] at h8
        have hRf : R.2.2.2 = qscan qbl T e a := by rw [← h8]
        refine z_il4 eX0_readText_32 ?_
        refine z_bipush eX0_readText_34 (by decide) ?_
        refine z_icmp_ge (tgt := 80) eX0_readText_36 rfl ⟨⟨by omega, by omega⟩, ⟨by omega, by omega⟩⟩ (fun h36 => ?_) (fun h36 => (by exfalso; omega))
        refine z_al0 eX0_readText_80 hne ?_
        first | refine z_ta0 lX0_12 eX0_readText_81 rfl hT hA (by decide) rfl rfl ?_ | refine z_ta lX0_12 eX0_readText_81 rfl hT hA ⟨by decide, by decide⟩ rfl rfl ?_
        refine z_V0 eX0_readText_84 vX0_44 rfl rfl (Nat.le_of_ble_eq_true rfl) (Nat.le_of_ble_eq_true rfl) ((WdAt.a).L0 hT (by decide)) (c_X10_fail hT hX ⟨by omega, by omega⟩ (by decide)) ?_
        rw [if_pos rfl]
        refine z_zreturn eX0_readText_87 rfl (by first | exact Or.inl rfl | exact Or.inr rfl | exact zbi_01 _ | assumption | omega) ?_
        exact hbad _ _ hRf (by omega) zTk_0 (fun i i1 i2 => by rw [zTk_o (by omega)]; exact h6 i i1 i2)
      · rw [if_neg c, qCoastLine_sk] at h8
        obtain ⟨L, hL⟩ : ∃ L, qCoastLine T e M' a = L := ⟨_, rfl⟩
        have hOC := qCoastLine_OC (T := T) (e := e) (a := a) h5 ha he.2 hT0
        have hok := (qCoastLine_ok (T := T) (e := e) (a := a) h5.ol.1 ha he.2 hT0).2
        rw [hL] at h8 hOC hok
        have hc := qskip_bd (T := T) hok.2.1
        have hc0 := hok.1
        refine z_il4 eX0_readText_32 ?_
        refine z_bipush eX0_readText_34 (by decide) ?_
        refine z_icmp_ge (tgt := 80) eX0_readText_36 rfl ⟨⟨by omega, by omega⟩, ⟨by omega, by omega⟩⟩ (fun h36 => (by exfalso; omega)) (fun h36 => ?_)
        refine z_al0 eX0_readText_39 hne ?_
        refine z_V0z eX0_readText_40 vX0_37 rfl rfl (Nat.le_of_ble_eq_true rfl) (Nat.le_of_ble_eq_true rfl) ((hA).L0 hT (by decide)) (c_X0_readLine hT hX ha h4 h5 hS) (fun s40 hs40 => ?_)
        rw [hL] at hs40 ⊢
        refine z_ifb_ne (tgt := 48) eX0_readText_43 rfl (fun h43 => ?_) (fun h43 => ?_)
        · obtain ⟨S2, e1, e2, e3, e4⟩ := hs40.1 h43
          subst e1
          have hX2 : TxC x S2 274 T e := hX.out (e2 _ (by decide)) (e2 _ (by decide))
          have h62 : zTxK σ S2 := fun i i1 i2 => by rw [e2 i (by omega)]; exact h6 i i1 i2
          refine z_al0 eX0_readText_48 hne ?_
          first | refine z_ta0 lX0_12 eX0_readText_49 rfl hT hA (by decide) rfl rfl ?_ | refine z_ta lX0_12 eX0_readText_49 rfl hT hA ⟨by decide, by decide⟩ rfl rfl ?_
          refine z_V0 eX0_readText_52 vX0_33 rfl rfl (Nat.le_of_ble_eq_true rfl) (Nat.le_of_ble_eq_true rfl) ((WdAt.a).L0 hT (by decide)) (c_X10_atEnd hT hX2 ⟨by omega, by omega⟩) ?_
          refine z_ifb_eq (tgt := 60) eX0_readText_55 rfl (fun h55 => ?_) (fun h55 => ?_)
          · refine z_al0 eX0_readText_60 hne ?_
            first | refine z_ta0 lX0_12 eX0_readText_61 rfl hT hA (by decide) rfl rfl ?_ | refine z_ta lX0_12 eX0_readText_61 rfl hT hA ⟨by decide, by decide⟩ rfl rfl ?_
            refine z_bipush eX0_readText_64 (by decide) ?_
            refine z_V1 eX0_readText_66 vX0_40 rfl rfl (Nat.le_of_ble_eq_true rfl) (Nat.le_of_ble_eq_true rfl) ((WdAt.a).L0 hT (by decide)) (c_X10_needSign hT hX2 ⟨by omega, by omega⟩ (by decide) (by decide) rfl) ?_
            refine z_ifk_ne (tgt := 74) eX0_readText_69 rfl (fun h69 => ?_) (fun h69 => ?_)
            · have hw69 := qsgn_pos h69 ⟨by omega, by omega⟩
              refine z_ii4 eX0_readText_74 (Nat.ne_of_beq_eq_false rfl) ?_
              refine z_goto eX0_readText_77 (tgt := 32) rfl ?_
              rw [if_pos ⟨h43, h69.1⟩, if_pos h69.2] at h8
              exact ih (n + 1) _ L.1 S2 (by omega) (by omega) (by omega) ⟨by omega, by omega⟩ hX2 e4 hOC h62 (e3.trans h7) h8
            · refine z_iconst eX0_readText_72 ?_
              refine z_zreturn eX0_readText_73 rfl (by first | exact Or.inl rfl | exact Or.inr rfl | exact zbi_01 _ | assumption | omega) ?_
              have hlt : qscan qbl T e L.2.1 < e := Classical.byContradiction h55
              have hRf : R.2.2.2 = qscan qbl T e L.2.1 := by rw [← h8, if_pos ⟨h43, hlt⟩, if_neg (fun q => h69 ⟨hlt, q⟩)]
              exact hbad _ _ hRf (by omega) zTk_0 (fun i i1 i2 => by rw [zTk_o (by omega)]; exact h62 i i1 i2)
          · refine z_iconst eX0_readText_58 ?_
            refine z_zreturn eX0_readText_59 rfl (by first | exact Or.inl rfl | exact Or.inr rfl | exact zbi_01 _ | assumption | omega) ?_
            exact hgood _ _ L.1 (by rw [← h8, if_neg (fun q => h55 q.2)]; exact h43) (by rw [← h8, if_neg (fun q => h55 q.2)]) e4 hOC h62 (e3.trans h7)
        · refine z_iconst eX0_readText_46 ?_
          refine z_zreturn eX0_readText_47 rfl (by first | exact Or.inl rfl | exact Or.inr rfl | exact zbi_01 _ | assumption | omega) ?_
          have hRf : R.2.2.2 = L.2.2 := by rw [← h8, if_neg (fun q => h43 q.1)]
          have hs0 := hs40.2 h43
          exact hbad _ _ hRf (by have := hok.2.2.1; omega) hs0.1 (fun i i1 i2 => by rw [hs0.2 i i1 i2]; exact h6 i i1 i2)
  have hR0 := hR
  unfold qRead at hR0
  have hs0 := qskip_bd (T := T) he.1
  refine z_al0 eX0_readText_0 hne ?_
  first | refine z_ta0 lX0_21 eX0_readText_1 rfl hT hA (by decide) rfl rfl ?_ | refine z_ta lX0_21 eX0_readText_1 rfl hT hA ⟨by decide, by decide⟩ rfl rfl ?_
  refine z_al3 eX0_readText_4 (by omega) ?_
  refine z_V1vz eX0_readText_5 vX0_25 rfl rfl (Nat.le_of_ble_eq_true rfl) (Nat.le_of_ble_eq_true rfl) ((isCo.draft).L0 hT (by decide)) (c_X1_takeAll hT hD isCo.now (by decide) hN hM.I) (fun s5 hs5 => ?_)
  obtain ⟨q1, q2, q3⟩ := hs5
  have hT9 : s5 1 = T := by rw [q1 _ (by decide)]; exact hTT
  have hXo := TxC.start (x := x) (σ := s5) (w := 274) (e := e) (Or.inl rfl) he (by rw [hT9]; exact hb)
  rw [hT9] at hXo
  have hNo : CoN (zOpn x s5 274 e) 276 M := q3.far (fun i i0 i1 => zOpn_o (by omega))
  have hKo : zTxK σ (zOpn x s5 274 e) := fun i i1 i2 => by rw [zOpn_o i1]; exact q1 i (by omega)
  have h10 : zOpn x s5 274 e 276 10 = σ 2 10 := by rw [zOpn_o (by decide)]; exact q2
  refine z_al0 eX0_readText_8 hne ?_
  first | refine z_ta0 lX0_12 eX0_readText_9 rfl hT hA (by decide) rfl rfl ?_ | refine z_ta lX0_12 eX0_readText_9 rfl hT hA ⟨by decide, by decide⟩ rfl rfl ?_
  refine z_al1 eX0_readText_12 (by omega) ?_
  refine z_il2 eX0_readText_13 ?_
  refine z_V2v eX0_readText_14 vX0_29 rfl rfl (Nat.le_of_ble_eq_true rfl) (Nat.le_of_ble_eq_true rfl) ((WdAt.a).L0 hT (by decide)) (c_X10_open hT (Or.inl rfl) he (by rw [hT9]; exact hb)) ?_
  rw [hT9]
  refine z_al0 eX0_readText_17 hne ?_
  first | refine z_ta0 lX0_12 eX0_readText_18 rfl hT hA (by decide) rfl rfl ?_ | refine z_ta lX0_12 eX0_readText_18 rfl hT hA ⟨by decide, by decide⟩ rfl rfl ?_
  refine z_V0 eX0_readText_21 vX0_33 rfl rfl (Nat.le_of_ble_eq_true rfl) (Nat.le_of_ble_eq_true rfl) ((WdAt.a).L0 hT (by decide)) (c_X10_atEnd hT hXo ⟨by omega, by omega⟩) ?_
  refine z_ifb_eq (tgt := 29) eX0_readText_24 rfl (fun h24 => ?_) (fun h24 => ?_)
  · refine z_iconst eX0_readText_29 ?_
    refine z_is4 eX0_readText_30 (Nat.ne_of_beq_eq_false rfl) ?_
    exact w32 15 0 0 M _ (by decide) (by decide) (by decide) ⟨by decide, by omega⟩ hXo hNo hM hKo h10 (by have hlt : qscan qbl T e 0 < e := Classical.byContradiction h24; rw [if_pos hlt] at hR0; rw [← hR0]; exact qReadN_sk)
  · refine z_iconst eX0_readText_27 ?_
    refine z_zreturn eX0_readText_28 rfl (by first | exact Or.inl rfl | exact Or.inr rfl | exact zbi_01 _ | assumption | omega) ?_
    exact hgood _ _ M (by rw [← hR0, if_neg h24]) (by rw [← hR0, if_neg h24]) hNo hM hKo h10
