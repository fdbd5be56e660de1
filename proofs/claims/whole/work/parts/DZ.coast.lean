/-! A coast, taken from the tape. -/
noncomputable def qRdC (σ : zMem) (M : Int → Int) : Int × qLn := qRead (σ 1) (σ 0 1) M 0
/-- what is there once the coast is read: how it ended is told by qCoastT -/
def zCst (lay : zLay) (x : Int) (σ C0 : zMem) (M : Int → Int) (s C : zMem) : Prop :=
  C = C0 ∧ s 0 1 = 0 ∧ s 0 2 = (qRdC σ M).2.2.2 ∧ (∀ j, j ≠ 1 → j ≠ 2 → j ≠ 8 → j ≠ 9 → s 0 j = σ 0 j) ∧ (∀ i, i ≠ 0 → ¬ (2 ≤ i ∧ i < 20) → i ≠ 274 → ¬ (276 ≤ i ∧ i < 294) → s i = σ i) ∧
  (qCoastT (qRdC σ M) = 0 → s 0 8 = 0 ∧ s 0 9 = 0 ∧ CoR lay x C0 s (0 + 2) (zput (qRdC σ M).2.1 0 ((qRdC σ M).2.1 0 + 1)) ∧ zOC (qRdC σ M).2.1) ∧
  (qCoastT (qRdC σ M) ≠ 0 → s 0 8 = σ 0 8 ∧ s 0 9 = σ 0 9 ∧ ∀ i, 2 ≤ i → i < 20 → s i = σ i)
theorem CoN.txt {σ : zMem} {b v : Int} {M : Int → Int} (h : CoN σ b M) (hI : zInv M) : CoN (zset σ b 0 v) b (zput M 0 v) := by
  have m3 := hI.m3
  have m4 := hI.m4
  have m11 := hI.m11
  have e : ∀ j, j ≠ 0 → zput M 0 v j = M j := fun j hj => zput_ne hj
  have e3 := e 3 (by decide)
  have f : ∀ j, j ≠ 0 → zset σ b 0 v b j = σ b j := fun j hj => zset_f hj
  refine ⟨?_, ?_, ?_, ?_, ?_, ?_, ?_, ?_, ?_, ?_, ?_, ?_, ?_⟩
  · rw [zset_eq, zput_eq]
  · rw [f 1 (by decide), e3]; exact h.n3
  · intro p p0 p1; rw [e3] at p1; rw [zset_o (by omega), e _ (by omega)]; exact h.pl p p0 p1
  · intro p p0 p1; rw [e3] at p1; rw [zset_o (by omega), e _ (by omega)]; exact h.se p p0 p1
  · intro k k0 k1; rw [zset_o (by omega), e _ (by omega)]; exact h.ex k k0 k1
  · rw [f 4 (by decide), h.ha]; exact (zors_eq e3 (fun t t0 t1 => by rw [e _ (by omega)])).symm
  · rw [f 5 (by decide), h.ou]; exact (zors_eq e3 (fun t t0 t1 => by rw [e _ (by omega)])).symm
  · rw [f 7 (by decide), e 8 (by omega)]; exact h.n8
  · rw [f 8 (by decide), e 9 (by omega)]; exact h.n9
  · rw [f 9 (by decide), e 10 (by omega)]; exact h.n10
  · exact (h.we.out (zset_o (by omega)) (zset_o (by omega))).m (fun j hj => e j (by omega))
  · exact (h.mo.out (fun i i0 i1 => zset_o (by omega))).m (by omega) (fun j hj => e j (by omega))
  · exact (h.lo.out (zset_o (by omega)) (zset_o (by omega))).m (by omega) (fun j hj => e j (by omega))
theorem CoL.m0 {lay : zLay} {x : Int} {C0 : zMem} {p : Int} {M M' : Int → Int} (h : CoL lay x C0 p M) (e : ∀ j, (1 ≤ j ∧ j ≤ 2) ∨ 426 ≤ j → M' j = M j) : CoL lay x C0 p M' := by
  exact h.m (e 1 (by omega)) (e 2 (by omega)) (fun i i0 => e _ (by omega))
theorem c_X11_coast {G : zG} {lay : zLay} {σ C0 : zMem} {nx x : Int} (hT : TopL lay x) {M : Int → Int} (hS : TxS lay C0) (hR : CoR lay x C0 σ (0 + 2) M) (hM : zOC M) (ht : 0 ≤ σ 0 1 ∧ σ 0 1 ≤ 400) (hb : ∀ i, 0 ≤ i → i < 400 → 0 ≤ σ 1 i ∧ σ 1 i ≤ 255) : zMM G 12 KX11_coast [zP (x + 0)] lay (tC x σ C0) nx (1, 6) (zTo ((if qCoastT (qRdC σ M) = 0 then .inl (some (zI ((qRdC σ M).2.1 0 + 1))) else if qCoastT (qRdC σ M) = 1 then .inr zEa else .inr zEu)) (fun s C => zCst lay x σ C0 M s C) lay nx x) := by
  refine z_met' (L := [zP (x + 0), zU]) gX11_coast.1 rfl rfl (Nat.le_of_ble_eq_true rfl) rfl ?_
  have hA := TpAt
  have hx := hT.1
  have hne : x + 0 ≠ -1 := by omega
  have hD := isCo.now
  have hDr : CoAt (0 + 273 + 3) := isCo.draft
  have hI := hM.I
  have hk : ∀ j, zKp j → (qRdC σ M).2.1 j = M j := fun j hj => qRead_k ht (fun k k0 k1 => (hb k k0 k1).1) hM.ol.1 hj
  have h0 := hI.s 0 rfl (by omega)
  have hk0 := hk 0 (Or.inl (by decide))
  have hN2 : CoN σ 2 M := hR.1
  have kNo : ∀ s16 : zMem, s16 274 0 = (qRdC σ M).2.2.2 → zTxK σ s16 → qCoastT (qRdC σ M) ≠ 0 → zCst lay x σ C0 M (zset (zset s16 0 2 (s16 (0 + 273 + 1) 0)) 0 1 0) C0 := by
    intro s h1 h2 h3
    have e0 := h2 0 (by decide) (by decide)
    refine ⟨rfl, zset_eq, by rw [zset_f (by decide), zset_eq]; exact h1, fun j j1 j2 _ _ => by rw [zset_f j1, zset_f j2, e0], fun i i0 i1 i2 i3 => by rw [zset_o i0, zset_o i0]; exact h2 i i2 i3, fun z => absurd z h3, fun _ => ⟨by rw [zset_f (by decide), zset_f (by decide), e0], by rw [zset_f (by decide), zset_f (by decide), e0], fun i i0 i1 => by rw [zset_o (by omega), zset_o (by omega)]; exact h2 i (by omega) (by omega)⟩⟩
  have kOK : ∀ s16 s86 : zMem, s16 274 0 = (qRdC σ M).2.2.2 → zTxK σ s16 → qCoastT (qRdC σ M) = 0 → zOut (0 + 2) 18 (zset (zset s16 0 2 (s16 (0 + 273 + 1) 0)) 0 1 0) s86 → s86 (0 + 2) 10 = σ 2 10 → CoN s86 (0 + 2) (qRdC σ M).2.1 → zOC (qRdC σ M).2.1 → zCst lay x σ C0 M (zset (zset (zset s86 (0 + 2) 0 ((qRdC σ M).2.1 0 + 1)) 0 9 0) 0 8 0) C0 := by
    intro s q h1 h2 h3 h4 h5 h6 h7
    have e0 := h2 0 (by decide) (by decide)
    have q0 := h4 0 (by decide)
    refine ⟨rfl, ?_, ?_, fun j j1 j2 j8 j9 => ?_, fun i i0 i1 i2 i3 => ?_, fun _ => ⟨zset_eq, by rw [zset_f (by decide)]; exact zset_eq, ?_, h7⟩, fun z => absurd h3 z⟩
    · rw [zset_f (by decide), zset_f (by decide), zset_o (by decide), q0]; exact zset_eq
    · rw [zset_f (by decide), zset_f (by decide), zset_o (by decide), q0, zset_f (by decide), zset_eq]; exact h1
    · rw [zset_f j8, zset_f j9, zset_o (by decide), q0, zset_f j1, zset_f j2, e0]
    · rw [zset_o i0, zset_o i0, zset_o (by omega), h4 i (by omega), zset_o i0, zset_o i0]; exact h2 i i2 i3
    · refine ⟨(h6.txt (v := (qRdC σ M).2.1 0 + 1) h7.I).far (fun i i0 i1 => by rw [zset_o (by omega), zset_o (by omega)]), ?_⟩
      rw [zset_o (by decide), zset_o (by decide), zset_f (by decide), h5]
      exact hR.2.m0 (fun j hj => by rw [zput_ne (by omega)]; exact hk j (by unfold zKp; omega))
  refine z_al0 eX11_coast_0 hne ?_
  first | refine z_ta0 lX11_37 eX11_coast_1 rfl hT hA (by decide) rfl rfl ?_ | refine z_ta lX11_37 eX11_coast_1 rfl hT hA ⟨by decide, by decide⟩ rfl rfl ?_
  refine z_al0 eX11_coast_4 hne ?_
  first | refine z_ta0 lX11_9 eX11_coast_5 rfl hT hA (by decide) rfl rfl ?_ | refine z_ta lX11_9 eX11_coast_5 rfl hT hA ⟨by decide, by decide⟩ rfl rfl ?_
  refine z_al0 eX11_coast_8 hne ?_
  first | refine z_tg0 (j := 1) lX11_69 eX11_coast_9 rfl hT hA (by decide) rfl rfl rfl ?_ | refine z_tg (j := 1) lX11_69 eX11_coast_9 rfl hT hA ⟨by decide, by decide⟩ rfl rfl rfl ?_
  refine z_al0 eX11_coast_12 hne ?_
  first | refine z_ta0 lX11_20 eX11_coast_13 rfl hT hA (by decide) rfl rfl ?_ | refine z_ta lX11_20 eX11_coast_13 rfl hT hA ⟨by decide, by decide⟩ rfl rfl ?_
  refine z_V3z eX11_coast_16 vX11_76 rfl rfl (Nat.le_of_ble_eq_true rfl) (Nat.le_of_ble_eq_true rfl) ((CxAt).L0 hT (by decide)) (c_X0_readText hT hS hN2 hM ht hb) (fun s16 hs16 => ?_)
  obtain ⟨g1, g2, g3⟩ := hs16
  rw [show (qRead (σ 1) (σ 0 1) M 0) = qRdC σ M from rfl] at g1 g3 ⊢
  refine z_is1 eX11_coast_19 (Nat.ne_of_beq_eq_false rfl) ?_
  refine z_al0 eX11_coast_20 hne ?_
  refine z_al0 eX11_coast_21 hne ?_
  first | refine z_ta0 lX11_37 eX11_coast_22 rfl hT hA (by decide) rfl rfl ?_ | refine z_ta lX11_37 eX11_coast_22 rfl hT hA ⟨by decide, by decide⟩ rfl rfl ?_
  first | refine z_ta0 lX11_80 eX11_coast_25 rfl hT CxAt (by decide) rfl rfl ?_ | refine z_ta lX11_80 eX11_coast_25 rfl hT CxAt ⟨by decide, by decide⟩ rfl rfl ?_
  first | refine z_tg0 (j := 0) lX11_84 eX11_coast_28 rfl hT WdAt.a (by decide) rfl rfl rfl ?_ | refine z_tg (j := 0) lX11_84 eX11_coast_28 rfl hT WdAt.a ⟨by decide, by decide⟩ rfl rfl rfl ?_
  first | refine z_tp0 (j := 2) lX11_13 eX11_coast_31 rfl hT hA (by decide) rfl rfl rfl ?_ | refine z_tp (j := 2) lX11_13 eX11_coast_31 rfl hT hA ⟨by decide, by decide⟩ rfl rfl rfl ?_
  refine z_al0 eX11_coast_34 hne ?_
  refine z_iconst eX11_coast_35 ?_
  first | refine z_tp0 (j := 1) lX11_69 eX11_coast_36 rfl hT hA (by decide) rfl rfl rfl ?_ | refine z_tp (j := 1) lX11_69 eX11_coast_36 rfl hT hA ⟨by decide, by decide⟩ rfl rfl rfl ?_
  refine z_il1 eX11_coast_39 ?_
  refine z_ifb_ne (tgt := 53) eX11_coast_40 rfl (fun h40 => ?_) (fun h40 => ?_)
  · refine z_al0 eX11_coast_53 hne ?_
    first | refine z_ta0 lX11_20 eX11_coast_54 rfl hT hA (by decide) rfl rfl ?_ | refine z_ta lX11_20 eX11_coast_54 rfl hT hA ⟨by decide, by decide⟩ rfl rfl ?_
    first | refine z_tg0 (j := 0) lX11_96 eX11_coast_57 rfl hT hD (by decide) rfl rfl rfl ?_ | refine z_tg (j := 0) lX11_96 eX11_coast_57 rfl hT hD ⟨by decide, by decide⟩ rfl rfl rfl ?_
    rw [show zset (zset s16 0 2 (s16 (0 + 273 + 1) 0)) 0 1 0 (0 + 2) 0 = M 0 by rw [zset_o (by decide), zset_o (by decide), g2 (0 + 2) (by decide) (by decide)]; exact hR.1.n0]
    refine z_bipush eX11_coast_60 (by decide) ?_
    refine z_icmp_lt (tgt := 75) eX11_coast_62 rfl ⟨⟨by omega, by omega⟩, ⟨by omega, by omega⟩⟩ (fun h62 => ?_) (fun h62 => ?_)
    · refine z_al0 eX11_coast_75 hne ?_
      first | refine z_ta0 lX11_20 eX11_coast_76 rfl hT hA (by decide) rfl rfl ?_ | refine z_ta lX11_20 eX11_coast_76 rfl hT hA ⟨by decide, by decide⟩ rfl rfl ?_
      refine z_al0 eX11_coast_79 hne ?_
      first | refine z_ta0 lX11_37 eX11_coast_80 rfl hT hA (by decide) rfl rfl ?_ | refine z_ta lX11_37 eX11_coast_80 rfl hT hA ⟨by decide, by decide⟩ rfl rfl ?_
      first | refine z_ta0 lX11_104 eX11_coast_83 rfl hT CxAt (by decide) rfl rfl ?_ | refine z_ta lX11_104 eX11_coast_83 rfl hT CxAt ⟨by decide, by decide⟩ rfl rfl ?_
      have ht0 : qCoastT (qRdC σ M) = 0 := by (unfold qCoastT; rw [if_pos h40, if_neg (by omega)])
      obtain ⟨g4, g5, g6⟩ := g3 h40
      refine z_V1vz eX11_coast_86 vX11_107 rfl rfl (Nat.le_of_ble_eq_true rfl) (Nat.le_of_ble_eq_true rfl) ((hD).L0 hT (by decide)) (c_X1_takeAll hT hD hDr (by decide) (g4.far (fun i i0 i1 => by rw [zset_o (by omega), zset_o (by omega)])) g6.I) (fun s86 hs86 => ?_)
      refine z_al0 eX11_coast_89 hne ?_
      first | refine z_ta0 lX11_20 eX11_coast_90 rfl hT hA (by decide) rfl rfl ?_ | refine z_ta lX11_20 eX11_coast_90 rfl hT hA ⟨by decide, by decide⟩ rfl rfl ?_
      refine z_dup eX11_coast_93 (Nat.ne_of_beq_eq_false rfl) ?_
      first | refine z_tg0 (j := 0) lX11_96 eX11_coast_94 rfl hT hD (by decide) rfl rfl rfl ?_ | refine z_tg (j := 0) lX11_96 eX11_coast_94 rfl hT hD ⟨by decide, by decide⟩ rfl rfl rfl ?_
      rw [hs86.2.2.n0]
      refine z_iconst eX11_coast_97 ?_
      refine z_iadd eX11_coast_98 ?_
      first | refine z_tp0 (j := 0) lX11_96 eX11_coast_99 rfl hT hD (by decide) rfl rfl rfl ?_ | refine z_tp (j := 0) lX11_96 eX11_coast_99 rfl hT hD ⟨by decide, by decide⟩ rfl rfl rfl ?_
      refine z_al0 eX11_coast_102 hne ?_
      refine z_V0v eX11_coast_103 vX11_111 rfl rfl (Nat.le_of_ble_eq_true rfl) (Nat.le_of_ble_eq_true rfl) ((hA).L0 hT (by decide)) (c_X11_forgetActs hT) ?_
      refine z_al0 eX11_coast_106 hne ?_
      first | refine z_ta0 lX11_20 eX11_coast_107 rfl hT hA (by decide) rfl rfl ?_ | refine z_ta lX11_20 eX11_coast_107 rfl hT hA ⟨by decide, by decide⟩ rfl rfl ?_
      first | refine z_tg0 (j := 0) lX11_96 eX11_coast_110 rfl hT hD (by decide) rfl rfl rfl ?_ | refine z_tg (j := 0) lX11_96 eX11_coast_110 rfl hT hD ⟨by decide, by decide⟩ rfl rfl rfl ?_
      rw [zset_o (by decide), zset_o (by decide), zset_eq]
      refine z_ireturn eX11_coast_113 rfl ?_
      exact ⟨_, _, kOK _ _ g1 g2 ht0 hs86.1 (by rw [hs86.2.1, zset_o (by decide), zset_o (by decide)]; exact g5) hs86.2.2 g6, by rw [if_pos ht0], rfl, rfl, rfl⟩
    · exact z_throw (sn := 26) rfl zth_99 rfl rfl eX11_coast_65 eX11_coast_68 eX11_coast_69 eX11_coast_71 eX11_coast_74 (Nat.le_of_ble_eq_true rfl) ⟨(Nat.le_of_ble_eq_true rfl), (Nat.le_of_ble_eq_true rfl)⟩ (by have ht : qCoastT (qRdC σ M) = 2 := (by unfold qCoastT; rw [if_pos h40, if_pos (by omega)]); exact ⟨_, _, kNo _ g1 g2 (by omega), by rw [if_neg (by omega), if_neg (by omega)], rfl, rfl, rfl⟩)
  · exact z_throw (sn := 25) rfl zth_89 rfl rfl eX11_coast_43 eX11_coast_46 eX11_coast_47 eX11_coast_49 eX11_coast_52 (Nat.le_of_ble_eq_true rfl) ⟨(Nat.le_of_ble_eq_true rfl), (Nat.le_of_ble_eq_true rfl)⟩ (by have ht : qCoastT (qRdC σ M) = 1 := (by unfold qCoastT; exact if_neg h40); exact ⟨_, _, kNo _ g1 g2 (by omega), by rw [if_neg (by omega), if_pos ht], rfl, rfl, rfl⟩)
