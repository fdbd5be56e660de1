/-! A place's line, and the paper's. -/
theorem qAfter_t {T : Int → Int} {e lo hi a n : Int} {w : List Int} (hn : (w.length : Int) = n) (h : qhas T e (qscan qbl T e a) w) : qAfter T e w lo hi a (-1) = qFig T e lo hi (qscan qbl T e a + n) (-1) := by unfold qAfter; rw [if_pos rfl, zif_t h, hn]
theorem qAfter_f {T : Int → Int} {e lo hi a : Int} {w : List Int} (h : ¬ qhas T e (qscan qbl T e a) w) : qAfter T e w lo hi a (-1) = (0, qscan qbl T e a, qscan qbl T e a) := by unfold qAfter; rw [if_pos rfl, zif_f h]
theorem qAfter_x {T : Int → Int} {e lo hi a f : Int} {w : List Int} (h : f ≠ -1) : qAfter T e w lo hi a f = (0, a, f) := by unfold qAfter; rw [if_neg h]
theorem qFig_skip {T : Int → Int} {e lo hi a : Int} : qFig T e lo hi (qscan qbl T e a) (-1) = qFig T e lo hi a (-1) := by unfold qFig; rw [qskip_idem, if_pos rfl, if_pos rfl]
/-- how exposed a place is, is told -/
theorem CoN.exs {σ : zMem} {b k v : Int} {M : Int → Int} (h : CoN σ b M) (hI : zInv M) (hk : 0 ≤ k ∧ k < 8) : CoN (zset σ (b + 3) k v) b (zput M (38 + k) v) := by
  have hm3 := hI.m3
  have e : ∀ j, j < 38 ∨ 46 ≤ j → zput M (38 + k) v j = M j := fun j hj => zput_ne (by omega)
  have o : ∀ q, q ≠ b + 3 → zset σ (b + 3) k v q = σ q := fun q hq => zset_o hq
  refine ⟨?_, ?_, ?_, ?_, ?_, ?_, ?_, ?_, ?_, ?_, ?_, ?_, ?_⟩
  · rw [o _ (by omega), e 0 (by omega)]; exact h.n0
  · rw [o _ (by omega), e 3 (by omega)]; exact h.n3
  · intro p p0 p1; rw [e 3 (by omega)] at p1; rw [o _ (by omega), e _ (by omega)]; exact h.pl p p0 p1
  · intro p p0 p1; rw [e 3 (by omega)] at p1; rw [o _ (by omega), e _ (by omega)]; exact h.se p p0 p1
  · intro j j0 j1
    by_cases c : j = k
    · rw [c, zset_eq, zput_eq]
    · rw [zset_f c, zput_ne (by omega)]; exact h.ex j j0 j1
  · rw [o _ (by omega), h.ha]; exact zors_eq (e 3 (by omega)).symm (fun t t0 t1 => by rw [e _ (by omega)])
  · rw [o _ (by omega), h.ou]; exact zors_eq (e 3 (by omega)).symm (fun t t0 t1 => by rw [e _ (by omega)])
  · rw [o _ (by omega), e 8 (by omega)]; exact h.n8
  · rw [o _ (by omega), e 9 (by omega)]; exact h.n9
  · rw [o _ (by omega), e 10 (by omega)]; exact h.n10
  · exact (h.we.out (o _ (by omega)) (o _ (by omega))).m (fun j hj => e j (by omega))
  · exact (h.mo.out (fun q q0 q1 => o _ (by omega))).m hI.m4.2 (fun j hj => e j (by omega))
  · exact (h.lo.out (o _ (by omega)) (o _ (by omega))).m hI.m11.2 (fun j hj => e j (by omega))
/-- the motions are told anew -/
theorem CoN.mot {σ S : zMem} {b : Int} {M M' : Int → Int} (h : CoN σ b M) (hI : zInv M) (ho : zOut (b + 8) 7 σ S) (e : ∀ j, ¬ (j = 4 ∨ (74 ≤ j ∧ j < 126)) → M' j = M j) (hm : MoR S (b + 8) M') : CoN S b M' :=
  h.of hI.m3.2 (ho _ (by omega)) (ho _ (by omega)) (ho _ (by omega)) (ho _ (by omega)) (fun j hj => e j (by omega)) ((h.we.out (ho _ (by omega)) (ho _ (by omega))).m (fun j hj => e j (by omega))) hm ((h.lo.out (ho _ (by omega)) (ho _ (by omega))).m hI.m11.2 (fun j hj => e j (by omega)))
/-- a motion is put on the paper -/
theorem MoR.pap {σ : zMem} {b t v : Int} {M : Int → Int} (h : MoR σ b M) (hI : zInv M) (ht : 0 ≤ t ∧ t < 12) : MoR (zset σ (b + 6) t v) b (zput M (114 + t) v) := by
  have hm4 := hI.m4
  have e : ∀ j, j < 114 → zput M (114 + t) v j = M j := fun j hj => zput_ne (by omega)
  have o : ∀ q, q ≠ b + 6 → zset σ (b + 6) t v q = σ q := fun q hq => zset_o hq
  refine ⟨by rw [o _ (by omega), e 4 (by omega)]; exact h.1, fun k k0 k1 => ?_, fun j j0 j1 => ?_⟩
  · rw [e 4 (by omega)] at k1
    rw [o _ (by omega), o _ (by omega), o _ (by omega), o _ (by omega), o _ (by omega), e _ (by omega), e _ (by omega), e _ (by omega), e _ (by omega), e _ (by omega)]
    exact h.2.1 k k0 k1
  · by_cases c : j = t
    · rw [c, zset_eq, zput_eq]
    · rw [zset_f c, zput_ne (by omega)]; exact h.2.2 j j0 j1
theorem c_X0_readPlace {G : zG} {lay : zLay} {s C0 : zMem} {nx x e a : Int} {T M : Int → Int} (hT : TopL lay x) (hX : TxC x s 274 T e) (ha : 0 ≤ a ∧ a ≤ e) (hN : CoN s 276 M) (hM : zOC M) (hS : TxS lay C0)  : zMM G 9 KX0_readPlace [zP (x + 273)] lay (tC x (zTk s 274 T e a (-1)) C0) nx (0, 0) (zZ' (some (zI (zbi ((qPlaceLine T e M a (-1)).2.2 = -1)))) (zRdC s T e (qPlaceLine T e M a (-1))) lay C0 nx x) := by
  refine z_met' (L := [zP (x + 273), zU]) gX0_readPlace.1 rfl rfl (Nat.le_of_ble_eq_true rfl) rfl ?_
  have hA := CxAt
  have hD := isCo.draft
  have hx := hT.1
  have hne : x + 273 ≠ -1 := by omega
  have he := hX.e0
  have hI := hM.I
  have hm3 := hI.m3
  have hm4 := hI.m4
  have hbd := qskip_bd (T := T) ha.2
  refine z_al0 eX0_readPlace_0 hne ?_
  first | refine z_ta0 lX0_12 eX0_readPlace_1 rfl hT hA (by decide) rfl rfl ?_ | refine z_ta lX0_12 eX0_readPlace_1 rfl hT hA ⟨by decide, by decide⟩ rfl rfl ?_
  first | rw [zTk_o (by decide), zset_eq] | skip
  refine z_iconst eX0_readPlace_4 ?_
  refine z_bipush eX0_readPlace_5 (by decide) ?_
  refine z_tkn eX0_readPlace_7 vX0_111 rfl rfl (Nat.le_of_ble_eq_true rfl) (Nat.le_of_ble_eq_true rfl) hT hX ⟨by omega, by omega⟩ ⟨by omega, by omega⟩ ⟨by omega, by omega⟩ (fun F7 hF7 hG7 hB7 hP7 => ?_) (fun F7 hF7 hG7 hB7 => ?_)
  · refine z_is1 eX0_readPlace_10 (Nat.ne_of_beq_eq_false rfl) ?_
    refine z_il1 eX0_readPlace_11 ?_
    refine z_iconst eX0_readPlace_12 ?_
    refine z_icmp_eq (tgt := 28) eX0_readPlace_13 rfl ⟨⟨by omega, by omega⟩, ⟨by omega, by omega⟩⟩ (fun h13 => (by exfalso; omega)) (fun h13 => ?_)
    refine z_al0 eX0_readPlace_16 hne ?_
    first | refine z_ta0 lX0_12 eX0_readPlace_17 rfl hT hA (by decide) rfl rfl ?_ | refine z_ta lX0_12 eX0_readPlace_17 rfl hT hA ⟨by decide, by decide⟩ rfl rfl ?_
    first | rw [zTk_o (by decide), zset_eq] | skip
    refine z_ldcS (t := 18) eX0_readPlace_20 rfl rfl rfl (by rw [(hS 18 _ rfl).1]) ?_
    refine z_V1 eX0_readPlace_22 vX0_139 rfl rfl (Nat.le_of_ble_eq_true rfl) (Nat.le_of_ble_eq_true rfl) ((WdAt.a).L0 hT (by decide)) (c_X10_needWord hT hX ⟨by omega, by omega⟩ hS (t := 18) (wd := qw_exposed) (n := 7) rfl rfl (by decide) rfl) ?_
    first | rw [zTk_o (by decide), zset_eq] | skip
    refine z_ifk_ne (tgt := 30) eX0_readPlace_25 rfl (fun h25 => ?_) (fun h25 => ?_)
    · have hw25 := qhas_pos (wd := qw_exposed) (n := 7) h25 rfl (by decide) ⟨by omega, by omega⟩
      refine z_al0 eX0_readPlace_30 hne ?_
      first | refine z_ta0 lX0_21 eX0_readPlace_31 rfl hT hA (by decide) rfl rfl ?_ | refine z_ta lX0_21 eX0_readPlace_31 rfl hT hA ⟨by decide, by decide⟩ rfl rfl ?_
      first | rw [zTk_o (by decide), zset_eq] | skip
      first | refine z_ta0 lX0_191 eX0_readPlace_34 rfl hT hD (by decide) rfl rfl ?_ | refine z_ta lX0_191 eX0_readPlace_34 rfl hT hD ⟨by decide, by decide⟩ rfl rfl ?_
      first | rw [zTk_o (by decide), zset_eq] | skip
      refine z_il1 eX0_readPlace_37 ?_
      refine z_al0 eX0_readPlace_38 hne ?_
      first | refine z_ta0 lX0_12 eX0_readPlace_39 rfl hT hA (by decide) rfl rfl ?_ | refine z_ta lX0_12 eX0_readPlace_39 rfl hT hA ⟨by decide, by decide⟩ rfl rfl ?_
      first | rw [zTk_o (by decide), zset_eq] | skip
      refine z_iconst eX0_readPlace_42 ?_
      refine z_bipush eX0_readPlace_43 (by decide) ?_
      refine z_tkn eX0_readPlace_45 vX0_111 rfl rfl (Nat.le_of_ble_eq_true rfl) (Nat.le_of_ble_eq_true rfl) hT hX ⟨by omega, by omega⟩ ⟨by omega, by omega⟩ ⟨by omega, by omega⟩ (fun F45 hF45 hG45 hB45 hP45 => ?_) (fun F45 hF45 hG45 hB45 => ?_)
      · refine z_ts eX0_readPlace_48 hT hD ⟨by decide, by decide⟩ rfl rfl ⟨by omega, by omega⟩ ?_
        rw [zTk_so (by decide)]
        refine z_al0 eX0_readPlace_49 hne ?_
        first | refine z_ta0 lX0_21 eX0_readPlace_50 rfl hT hA (by decide) rfl rfl ?_ | refine z_ta lX0_21 eX0_readPlace_50 rfl hT hA ⟨by decide, by decide⟩ rfl rfl ?_
        first | rw [zTk_o (by decide), zset_eq] | skip
        first | refine z_ta0 lX0_191 eX0_readPlace_53 rfl hT hD (by decide) rfl rfl ?_ | refine z_ta lX0_191 eX0_readPlace_53 rfl hT hD ⟨by decide, by decide⟩ rfl rfl ?_
        first | rw [zTk_o (by decide), zset_eq] | skip
        refine z_il1 eX0_readPlace_56 ?_
        refine z_tl eX0_readPlace_57 hT hD ⟨by decide, by decide⟩ rfl rfl ⟨by omega, by omega⟩ ?_
        first | rw [zTk_o (by decide), zset_eq] | skip
        refine z_iconst eX0_readPlace_58 ?_
        refine z_icmp_eq (tgt := 66) eX0_readPlace_59 rfl ⟨⟨by omega, by omega⟩, ⟨by omega, by omega⟩⟩ (fun h59 => (by exfalso; omega)) (fun h59 => ?_)
        refine z_iconst eX0_readPlace_62 ?_
        refine z_goto eX0_readPlace_63 (tgt := 67) rfl ?_
        refine z_zreturn eX0_readPlace_67 rfl (by first | exact Or.inl rfl | exact Or.inr rfl | exact zbi_01 _ | assumption | omega) ?_
        rw [show qPlaceLine T e M a (-1) = (zput M (38 + F7.1) F45.1, F45.2) by unfold qPlaceLine; rw [hF7, hG7, qAfter_t (n := 7) rfl h25, hF45, if_pos hG45]]
        exact zRdt hG45 rfl (zO18 (by decide)) (by rw [zset_o (by decide)]) (hN.exs hI ⟨by omega, by omega⟩)
      · refine z_ts eX0_readPlace_48 hT hD ⟨by decide, by decide⟩ rfl rfl ⟨by omega, by omega⟩ ?_
        rw [zTk_so (by decide)]
        refine z_al0 eX0_readPlace_49 hne ?_
        first | refine z_ta0 lX0_21 eX0_readPlace_50 rfl hT hA (by decide) rfl rfl ?_ | refine z_ta lX0_21 eX0_readPlace_50 rfl hT hA ⟨by decide, by decide⟩ rfl rfl ?_
        first | rw [zTk_o (by decide), zset_eq] | skip
        first | refine z_ta0 lX0_191 eX0_readPlace_53 rfl hT hD (by decide) rfl rfl ?_ | refine z_ta lX0_191 eX0_readPlace_53 rfl hT hD ⟨by decide, by decide⟩ rfl rfl ?_
        first | rw [zTk_o (by decide), zset_eq] | skip
        refine z_il1 eX0_readPlace_56 ?_
        refine z_tl eX0_readPlace_57 hT hD ⟨by decide, by decide⟩ rfl rfl ⟨by omega, by omega⟩ ?_
        first | rw [zTk_o (by decide), zset_eq] | skip
        refine z_iconst eX0_readPlace_58 ?_
        refine z_icmp_eq (tgt := 66) eX0_readPlace_59 rfl ⟨⟨by omega, by omega⟩, ⟨by omega, by omega⟩⟩ (fun h59 => ?_) (fun h59 => (by exfalso; omega))
        refine z_iconst eX0_readPlace_66 ?_
        refine z_zreturn eX0_readPlace_67 rfl (by first | exact Or.inl rfl | exact Or.inr rfl | exact zbi_01 _ | assumption | omega) ?_
        rw [show qPlaceLine T e M a (-1) = (M, F45.2) by unfold qPlaceLine; rw [hF7, hG7, qAfter_t (n := 7) rfl h25, hF45, if_neg (by omega)]]
        exact zRdf rfl hB45 (zO18 (by decide))
    · refine z_iconst eX0_readPlace_28 ?_
      refine z_zreturn eX0_readPlace_29 rfl (by first | exact Or.inl rfl | exact Or.inr rfl | exact zbi_01 _ | assumption | omega) ?_
      have hb9 := qskip_bd (T := T) hP7.2
      rw [show qPlaceLine T e M a (-1) = (M, qscan qbl T e F7.2.1, qscan qbl T e F7.2.1) by unfold qPlaceLine; rw [hF7, hG7, qAfter_f h25]; dsimp only; rw [if_neg (by omega)]]
      exact zRdf rfl (by omega) (zOut.refl _ _ _)
  · refine z_is1 eX0_readPlace_10 (Nat.ne_of_beq_eq_false rfl) ?_
    refine z_il1 eX0_readPlace_11 ?_
    refine z_iconst eX0_readPlace_12 ?_
    refine z_icmp_eq (tgt := 28) eX0_readPlace_13 rfl ⟨⟨by omega, by omega⟩, ⟨by omega, by omega⟩⟩ (fun h13 => ?_) (fun h13 => (by exfalso; omega))
    refine z_iconst eX0_readPlace_28 ?_
    refine z_zreturn eX0_readPlace_29 rfl (by first | exact Or.inl rfl | exact Or.inr rfl | exact zbi_01 _ | assumption | omega) ?_
    rw [show qPlaceLine T e M a (-1) = (M, F7.2) by unfold qPlaceLine; rw [hF7, qAfter_x (by omega)]; dsimp only; rw [if_neg (by omega)]]
    exact zRdf rfl hB7 (zOut.refl _ _ _)
theorem zTk_b {G : zG} {k : zK} {D pc : Nat} {Q : zQ} {L st : List zAV} {lay : zLay} {x w e a f nx : Int} {σ C0 : zMem} {T : Int → Int} {bb : Nat × Nat} (hw : w = 274) (h : zW G k D Q pc L (zI (qscan qbl T e a) :: st) lay (tC x (zTk σ w T e a f) C0) nx bb) : zW G k D Q pc L (zI (tC x (zTk σ w T e a f) C0 (x + w) 3) :: st) lay (tC x (zTk σ w T e a f) C0) nx bb := by
  subst hw
  rw [tC_n (i := 274) (by unfold inT; omega) rfl, zTk_3]
  exact h
theorem c_X0_readPaper {G : zG} {lay : zLay} {s C0 : zMem} {nx x e a : Int} {T M : Int → Int} (hT : TopL lay x) (hX : TxC x s 274 T e) (ha : 0 ≤ a ∧ a ≤ e) (hN : CoN s 276 M) (hM : zOC M) (hS : TxS lay C0)  : zMM G 3 KX0_readPaper [zP (x + 273)] lay (tC x (zTk s 274 T e a (-1)) C0) nx (0, 0) (zZ' (some (zI (zbi ((qPaperLine T e M a (-1)).2.2 = -1)))) (zRdC s T e (qPaperLine T e M a (-1))) lay C0 nx x) := by
  refine z_met' (L := [zP (x + 273), zU, zU, zU, zU]) gX0_readPaper.1 rfl rfl (Nat.le_of_ble_eq_true rfl) rfl ?_
  have hA := CxAt
  have hD := isCo.draft
  have hx := hT.1
  have hne : x + 273 ≠ -1 := by omega
  have he := hX.e0
  have hI := hM.I
  have hm3 := hI.m3
  have hm4 := hI.m4
  have hbd := qskip_bd (T := T) ha.2
  have hMo9 : ∀ a f, MoR (zTk s 274 T e a f) (276 + 8) M := fun a f => hN.mo.out (fun i i0 i1 => zTk_o (by omega))
  refine z_al0 eX0_readPaper_0 hne ?_
  first | refine z_ta0 lX0_12 eX0_readPaper_1 rfl hT hA (by decide) rfl rfl ?_ | refine z_ta lX0_12 eX0_readPaper_1 rfl hT hA ⟨by decide, by decide⟩ rfl rfl ?_
  first | rw [zTk_o (by decide), show s (273 + 3 + 8) 0 = M 4 from hN.mo.1] | skip
  refine z_iconst eX0_readPaper_4 ?_
  refine z_bipush eX0_readPaper_5 (by decide) ?_
  refine z_tkn eX0_readPaper_7 vX0_111 rfl rfl (Nat.le_of_ble_eq_true rfl) (Nat.le_of_ble_eq_true rfl) hT hX ⟨by omega, by omega⟩ ⟨by omega, by omega⟩ ⟨by omega, by omega⟩ (fun F7 hF7 hG7 hB7 hP7 => ?_) (fun F7 hF7 hG7 hB7 => ?_)
  · refine z_is1 eX0_readPaper_10 (Nat.ne_of_beq_eq_false rfl) ?_
    refine z_il1 eX0_readPaper_11 ?_
    refine z_iconst eX0_readPaper_12 ?_
    refine z_icmp_ne (tgt := 18) eX0_readPaper_13 rfl ⟨⟨by omega, by omega⟩, ⟨by omega, by omega⟩⟩ (fun h13 => ?_) (fun h13 => (by exfalso; omega))
    refine z_al0 eX0_readPaper_18 hne ?_
    first | refine z_ta0 lX0_12 eX0_readPaper_19 rfl hT hA (by decide) rfl rfl ?_ | refine z_ta lX0_12 eX0_readPaper_19 rfl hT hA ⟨by decide, by decide⟩ rfl rfl ?_
    first | rw [zTk_o (by decide), show s (273 + 3 + 8) 0 = M 4 from hN.mo.1] | skip
    refine z_getfieldN (kf := 3) (RX10, TX10, 6) rfl (by decide) List.mem_cons_self rfl eX0_readPaper_22 (WdAt.a.L0 hT (by decide)) ?_
    refine zTk_b rfl ?_
    first | rw [zTk_o (by decide), show s (273 + 3 + 8) 0 = M 4 from hN.mo.1] | skip
    refine z_is2 eX0_readPaper_25 (Nat.ne_of_beq_eq_false rfl) ?_
    have hbd7 := qskip_bd (T := T) hP7.2
    have hL9 : ∀ F : Int × Int × Int, qFig T e 0 (M 4 - 1) F7.2.1 (-1) = F → qPaperLine T e M a (-1) = (if (if F.2.2 = -1 ∧ ¬ qstands M F.1 12 = -1 ∧ ¬ qstands M F.1 12 = F7.1 then qscan qbl T e F7.2.1 else F.2.2) = -1 then zput M (114 + F7.1) F.1 else M, F.2.1, if F.2.2 = -1 ∧ ¬ qstands M F.1 12 = -1 ∧ ¬ qstands M F.1 12 = F7.1 then qscan qbl T e F7.2.1 else F.2.2) := fun F hF => by unfold qPaperLine; rw [hF7]; dsimp only; rw [hG7, qFig_skip, hF]
    refine z_al0 eX0_readPaper_26 hne ?_
    first | refine z_ta0 lX0_12 eX0_readPaper_27 rfl hT hA (by decide) rfl rfl ?_ | refine z_ta lX0_12 eX0_readPaper_27 rfl hT hA ⟨by decide, by decide⟩ rfl rfl ?_
    first | rw [zTk_o (by decide), show s (273 + 3 + 8) 0 = M 4 from hN.mo.1] | skip
    refine z_iconst eX0_readPaper_30 ?_
    refine z_al0 eX0_readPaper_31 hne ?_
    first | refine z_ta0 lX0_21 eX0_readPaper_32 rfl hT hA (by decide) rfl rfl ?_ | refine z_ta lX0_21 eX0_readPaper_32 rfl hT hA ⟨by decide, by decide⟩ rfl rfl ?_
    first | rw [zTk_o (by decide), show s (273 + 3 + 8) 0 = M 4 from hN.mo.1] | skip
    first | refine z_ta0 lX0_62 eX0_readPaper_35 rfl hT hD (by decide) rfl rfl ?_ | refine z_ta lX0_62 eX0_readPaper_35 rfl hT hD ⟨by decide, by decide⟩ rfl rfl ?_
    first | rw [zTk_o (by decide), show s (273 + 3 + 8) 0 = M 4 from hN.mo.1] | skip
    first | refine z_tg0 (j := 0) lX0_66 eX0_readPaper_38 rfl hT hD.mo (by decide) rfl rfl rfl ?_ | refine z_tg (j := 0) lX0_66 eX0_readPaper_38 rfl hT hD.mo ⟨by decide, by decide⟩ rfl rfl rfl ?_
    first | rw [zTk_o (by decide), show s (273 + 3 + 8) 0 = M 4 from hN.mo.1] | skip
    refine z_iconst eX0_readPaper_41 ?_
    refine z_isub eX0_readPaper_42 ?_
    refine z_tkn eX0_readPaper_43 vX0_111 rfl rfl (Nat.le_of_ble_eq_true rfl) (Nat.le_of_ble_eq_true rfl) hT hX ⟨by omega, by omega⟩ ⟨by omega, by omega⟩ ⟨by omega, by omega⟩ (fun F43 hF43 hG43 hB43 hP43 => ?_) (fun F43 hF43 hG43 hB43 => ?_)
    · refine z_is3 eX0_readPaper_46 (Nat.ne_of_beq_eq_false rfl) ?_
      refine z_il3 eX0_readPaper_47 ?_
      refine z_iconst eX0_readPaper_48 ?_
      refine z_icmp_ne (tgt := 54) eX0_readPaper_49 rfl ⟨⟨by omega, by omega⟩, ⟨by omega, by omega⟩⟩ (fun h49 => ?_) (fun h49 => (by exfalso; omega))
      refine z_al0 eX0_readPaper_54 hne ?_
      first | refine z_ta0 lX0_21 eX0_readPaper_55 rfl hT hA (by decide) rfl rfl ?_ | refine z_ta lX0_21 eX0_readPaper_55 rfl hT hA ⟨by decide, by decide⟩ rfl rfl ?_
      first | rw [zTk_o (by decide), show s (273 + 3 + 8) 0 = M 4 from hN.mo.1] | skip
      first | refine z_ta0 lX0_62 eX0_readPaper_58 rfl hT hD (by decide) rfl rfl ?_ | refine z_ta lX0_62 eX0_readPaper_58 rfl hT hD ⟨by decide, by decide⟩ rfl rfl ?_
      first | rw [zTk_o (by decide), show s (273 + 3 + 8) 0 = M 4 from hN.mo.1] | skip
      refine z_il3 eX0_readPaper_61 ?_
      refine z_V1 eX0_readPaper_62 vX0_197 rfl rfl (Nat.le_of_ble_eq_true rfl) (Nat.le_of_ble_eq_true rfl) ((hD.mo).L0 hT (by decide)) (c_X6_hourOf hT hD.mo (hMo9 _ _) hI ⟨by omega, by omega⟩) ?_
      first | rw [zTk_o (by decide), show s (273 + 3 + 8) 0 = M 4 from hN.mo.1] | skip
      rw [← qHourOf_q hM.pap (by omega)]
      have hqs : -1 ≤ qstands M F43.1 12 ∧ qstands M F43.1 12 < 12 ∨ qstands M F43.1 12 = -1 := qstands_bd (M := M) (t := F43.1) 12
      refine z_is4 eX0_readPaper_65 (Nat.ne_of_beq_eq_false rfl) ?_
      refine z_il4 eX0_readPaper_67 ?_
      refine z_iconst eX0_readPaper_69 ?_
      refine z_icmp_eq (tgt := 89) eX0_readPaper_70 rfl ⟨⟨by omega, by omega⟩, ⟨by omega, by omega⟩⟩ (fun h70 => ?_) (fun h70 => ?_)
      · refine z_al0 eX0_readPaper_89 hne ?_
        first | refine z_ta0 lX0_21 eX0_readPaper_90 rfl hT hA (by decide) rfl rfl ?_ | refine z_ta lX0_21 eX0_readPaper_90 rfl hT hA ⟨by decide, by decide⟩ rfl rfl ?_
        first | rw [zTk_o (by decide), show s (273 + 3 + 8) 0 = M 4 from hN.mo.1] | skip
        first | refine z_ta0 lX0_62 eX0_readPaper_93 rfl hT hD (by decide) rfl rfl ?_ | refine z_ta lX0_62 eX0_readPaper_93 rfl hT hD ⟨by decide, by decide⟩ rfl rfl ?_
        first | rw [zTk_o (by decide), show s (273 + 3 + 8) 0 = M 4 from hN.mo.1] | skip
        first | refine z_ta0 lX0_203 eX0_readPaper_96 rfl hT hD.mo (by decide) rfl rfl ?_ | refine z_ta lX0_203 eX0_readPaper_96 rfl hT hD.mo ⟨by decide, by decide⟩ rfl rfl ?_
        first | rw [zTk_o (by decide), show s (273 + 3 + 8) 0 = M 4 from hN.mo.1] | skip
        refine z_il1 eX0_readPaper_99 ?_
        refine z_il3 eX0_readPaper_100 ?_
        refine z_ts eX0_readPaper_101 hT hD.mo ⟨by decide, by decide⟩ rfl rfl ⟨by omega, by omega⟩ ?_
        rw [zTk_so (by decide)]
        refine z_iconst eX0_readPaper_102 ?_
        refine z_zreturn eX0_readPaper_103 rfl (by first | exact Or.inl rfl | exact Or.inr rfl | exact zbi_01 _ | assumption | omega) ?_
        rw [hL9 F43 hF43, if_neg (c := F43.2.2 = -1 ∧ _) (fun z => by omega), if_pos hG43]
        exact zRdt hG43 rfl (zO18 (by decide)) (by rw [zset_o (by decide)]) (hN.mot hI ((zOut.refl _ _ _).set ⟨by decide, by decide⟩) (fun j hj => zput_ne (by omega)) (hN.mo.pap hI ⟨by omega, by omega⟩))
      · refine z_il4 eX0_readPaper_73 ?_
        refine z_il1 eX0_readPaper_75 ?_
        refine z_icmp_eq (tgt := 89) eX0_readPaper_76 rfl ⟨⟨by omega, by omega⟩, ⟨by omega, by omega⟩⟩ (fun h76 => ?_) (fun h76 => ?_)
        · refine z_al0 eX0_readPaper_89 hne ?_
          first | refine z_ta0 lX0_21 eX0_readPaper_90 rfl hT hA (by decide) rfl rfl ?_ | refine z_ta lX0_21 eX0_readPaper_90 rfl hT hA ⟨by decide, by decide⟩ rfl rfl ?_
          first | rw [zTk_o (by decide), show s (273 + 3 + 8) 0 = M 4 from hN.mo.1] | skip
          first | refine z_ta0 lX0_62 eX0_readPaper_93 rfl hT hD (by decide) rfl rfl ?_ | refine z_ta lX0_62 eX0_readPaper_93 rfl hT hD ⟨by decide, by decide⟩ rfl rfl ?_
          first | rw [zTk_o (by decide), show s (273 + 3 + 8) 0 = M 4 from hN.mo.1] | skip
          first | refine z_ta0 lX0_203 eX0_readPaper_96 rfl hT hD.mo (by decide) rfl rfl ?_ | refine z_ta lX0_203 eX0_readPaper_96 rfl hT hD.mo ⟨by decide, by decide⟩ rfl rfl ?_
          first | rw [zTk_o (by decide), show s (273 + 3 + 8) 0 = M 4 from hN.mo.1] | skip
          refine z_il1 eX0_readPaper_99 ?_
          refine z_il3 eX0_readPaper_100 ?_
          refine z_ts eX0_readPaper_101 hT hD.mo ⟨by decide, by decide⟩ rfl rfl ⟨by omega, by omega⟩ ?_
          rw [zTk_so (by decide)]
          refine z_iconst eX0_readPaper_102 ?_
          refine z_zreturn eX0_readPaper_103 rfl (by first | exact Or.inl rfl | exact Or.inr rfl | exact zbi_01 _ | assumption | omega) ?_
          rw [hL9 F43 hF43, if_neg (c := F43.2.2 = -1 ∧ _) (fun z => by omega), if_pos hG43]
          exact zRdt hG43 rfl (zO18 (by decide)) (by rw [zset_o (by decide)]) (hN.mot hI ((zOut.refl _ _ _).set ⟨by decide, by decide⟩) (fun j hj => zput_ne (by omega)) (hN.mo.pap hI ⟨by omega, by omega⟩))
        · refine z_al0 eX0_readPaper_79 hne ?_
          first | refine z_ta0 lX0_12 eX0_readPaper_80 rfl hT hA (by decide) rfl rfl ?_ | refine z_ta lX0_12 eX0_readPaper_80 rfl hT hA ⟨by decide, by decide⟩ rfl rfl ?_
          first | rw [zTk_o (by decide), show s (273 + 3 + 8) 0 = M 4 from hN.mo.1] | skip
          refine z_il2 eX0_readPaper_83 ?_
          have hL8 := hL9 F43 hF43
          rw [if_pos (c := F43.2.2 = -1 ∧ ¬ qstands M F43.1 12 = -1 ∧ ¬ qstands M F43.1 12 = F7.1) ⟨hG43, h70, h76⟩, if_neg (by omega)] at hL8
          first | refine z_tp0 (j := 0) lX0_200 eX0_readPaper_84 rfl hT WdAt.a (by decide) rfl rfl rfl ?_ | refine z_tp (j := 0) lX0_200 eX0_readPaper_84 rfl hT WdAt.a ⟨by decide, by decide⟩ rfl rfl rfl ?_
          change zW _ _ _ _ _ _ _ _ (tC x (zset (zTk s 274 T e F43.2.1 (-1)) 274 0 (qscan qbl T e F7.2.1)) C0) _ _
          rw [show zset (zTk s 274 T e F43.2.1 (-1)) 274 0 (qscan qbl T e F7.2.1) = zTk s 274 T e F43.2.1 (qscan qbl T e F7.2.1) from zWd_s0]
          refine z_iconst eX0_readPaper_87 ?_
          refine z_zreturn eX0_readPaper_88 rfl (by first | exact Or.inl rfl | exact Or.inr rfl | exact zbi_01 _ | assumption | omega) ?_
          rw [hL8]
          exact zRdf rfl (by omega) (zOut.refl _ _ _)
    · refine z_is3 eX0_readPaper_46 (Nat.ne_of_beq_eq_false rfl) ?_
      refine z_il3 eX0_readPaper_47 ?_
      refine z_iconst eX0_readPaper_48 ?_
      refine z_icmp_ne (tgt := 54) eX0_readPaper_49 rfl ⟨⟨by omega, by omega⟩, ⟨by omega, by omega⟩⟩ (fun h49 => (by exfalso; omega)) (fun h49 => ?_)
      refine z_iconst eX0_readPaper_52 ?_
      refine z_zreturn eX0_readPaper_53 rfl (by first | exact Or.inl rfl | exact Or.inr rfl | exact zbi_01 _ | assumption | omega) ?_
      rw [hL9 F43 hF43, if_neg (c := F43.2.2 = -1 ∧ _) (fun z => by omega), if_neg (by omega)]
      exact zRdf rfl hB43 (zOut.refl _ _ _)
  · refine z_is1 eX0_readPaper_10 (Nat.ne_of_beq_eq_false rfl) ?_
    refine z_il1 eX0_readPaper_11 ?_
    refine z_iconst eX0_readPaper_12 ?_
    refine z_icmp_ne (tgt := 18) eX0_readPaper_13 rfl ⟨⟨by omega, by omega⟩, ⟨by omega, by omega⟩⟩ (fun h13 => (by exfalso; omega)) (fun h13 => ?_)
    refine z_iconst eX0_readPaper_16 ?_
    refine z_zreturn eX0_readPaper_17 rfl (by first | exact Or.inl rfl | exact Or.inr rfl | exact zbi_01 _ | assumption | omega) ?_
    rw [show qPaperLine T e M a (-1) = (M, (qFig T e 0 (M 4 - 1) (qscan qbl T e F7.2.1) F7.2.2).2.1, F7.2.2) by unfold qPaperLine; rw [hF7]; dsimp only; rw [qFig_no (by omega)]; dsimp only; rw [if_neg (c := F7.2.2 = -1 ∧ _) (fun z => by omega), if_neg (by omega)]]
    exact zRdf rfl hB7 (zOut.refl _ _ _)
