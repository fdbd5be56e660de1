/-! A law and a coast, taken from the tape. -/
/-- an end o' with R of the state -/
def zTo (o' : zO) (R : zMem → zMem → Prop) (lay : zLay) (nx x : Int) : zQ := fun o l c n => ∃ s C' : zMem, R s C' ∧ o = o' ∧ l = lay ∧ c = tC x s C' ∧ n = nx
theorem zset_cg {A B : zMem} {o j v i : Int} (h : A i = B i) : zset A o j v i = zset B o j v i := by
  funext t
  rw [zset_at, zset_at, h]
theorem qTx_lo {T M : Int → Int} {e j : Int} (h : j < 426) : qTx e T M j = M j := by unfold qTx; rw [if_neg (by omega)]
theorem LwM.read {l : zLay} {x : Int} {C : zMem} {p e n : Int} {T M : Int → Int} (he : 0 ≤ e ∧ e ≤ 400) (hA : LwA l x p e) (hI : zLI e p C n (fun F => (qRF T e F).2.1)) (hT : ∀ k, 0 ≤ k → k < 400 → 0 ≤ T k) : LwM l x C p e (qTx e T (zput (zput M 1 n) 2 e)) := by
  obtain ⟨hB, h0, hst, h4, hF, hsp, hW⟩ := hI
  have e1 : qTx e T (zput (zput M 1 n) 2 e) 1 = n := by rw [qTx_lo (by decide), zput_ne (by decide), zput_eq]
  have e2 : qTx e T (zput (zput M 1 n) 2 e) 2 = e := by rw [qTx_lo (by decide), zput_eq]
  refine ⟨hA, hF, hB, by rw [h0, e1], fun T' hT' F hFF => ?_⟩
  rw [e2] at hT' ⊢
  have hag : qAgr T' T e := fun i i0 i1 => by
    rw [hT' i i0 i1]
    unfold qTx
    rw [if_pos (by omega), show 426 + i - 426 = i by omega]
  obtain ⟨V, v1, v2⟩ := hW F hFF
  refine ⟨V, v1, ?_⟩
  have h := qRF_T hag he hT hFF
  have h2 : qLaw T' e (qAtom T' e F (F 7) (F 9) 6) (0, 0, 0) 0 = qRF T' e F := rfl
  rw [h2, h, h0]
  exact v2
theorem CoN.lw {σ : zMem} {b v : Int} {M M' : Int → Int} (h : CoN σ b M) (hI : zInv M) (e : ∀ j, (j = 0 ∨ 3 ≤ j) → j < 426 → M' j = M j) : CoN (zset σ b 10 v) b M' := by
  have m3 := hI.m3
  have m4 := hI.m4
  have m11 := hI.m11
  have e3 := e 3 (by omega) (by omega)
  have f : ∀ j, j ≠ 10 → zset σ b 10 v b j = σ b j := fun j hj => zset_f hj
  refine ⟨?_, ?_, ?_, ?_, ?_, ?_, ?_, ?_, ?_, ?_, ?_, ?_, ?_⟩
  · rw [f 0 (by decide), e 0 (by omega) (by omega)]; exact h.n0
  · rw [f 1 (by decide), e3]; exact h.n3
  · intro p p0 p1; rw [e3] at p1; rw [zset_o (by omega), e _ (by omega) (by omega)]; exact h.pl p p0 p1
  · intro p p0 p1; rw [e3] at p1; rw [zset_o (by omega), e _ (by omega) (by omega)]; exact h.se p p0 p1
  · intro k k0 k1; rw [zset_o (by omega), e _ (by omega) (by omega)]; exact h.ex k k0 k1
  · rw [f 4 (by decide), h.ha]; exact (zors_eq e3 (fun t t0 t1 => by rw [e _ (by omega) (by omega)])).symm
  · rw [f 5 (by decide), h.ou]; exact (zors_eq e3 (fun t t0 t1 => by rw [e _ (by omega) (by omega)])).symm
  · rw [f 7 (by decide), e 8 (by omega) (by omega)]; exact h.n8
  · rw [f 8 (by decide), e 9 (by omega) (by omega)]; exact h.n9
  · rw [f 9 (by decide), e 10 (by omega) (by omega)]; exact h.n10
  · exact (h.we.out (zset_o (by omega)) (zset_o (by omega))).m (fun j hj => e j (by omega) (by omega))
  · exact (h.mo.out (fun i i0 i1 => zset_o (by omega))).m (by omega) (fun j hj => e j (by omega) (by omega))
  · exact (h.lo.out (zset_o (by omega)) (zset_o (by omega))).m (by omega) (fun j hj => e j (by omega) (by omega))
def zLwQ (x : Int) (lay : zLay) (σ C0 : zMem) (nx : Int) (M : Int → Int) (r : zO) (l : zLay) (c : zMem) (m : Int) : Prop :=
  ∃ s C : zMem, c = tC x s C ∧ m = nx + 6 ∧ (∀ o, o < nx → l o = lay o) ∧ (∀ o, o < nx → C o = C0 o) ∧ r = (if (qLawP (σ 1) (σ 0 1)).2 = -1 then .inl (some (zI (qLawP (σ 1) (σ 0 1)).1)) else .inr zEa) ∧ s 0 2 = (qLawP (σ 1) (σ 0 1)).2 ∧ s 0 1 = 0 ∧ (∀ j, j ≠ 1 → j ≠ 2 → j ≠ 8 → j ≠ 9 → s 0 j = σ 0 j) ∧ (∀ i, i ≠ 0 → i ≠ 2 → i ≠ 294 → i ≠ 295 → s i = σ i) ∧
  ((qLawP (σ 1) (σ 0 1)).2 = -1 → s 0 8 = 0 ∧ s 0 9 = 0 ∧ CoR l x C s (0 + 2) (qTx (σ 0 1) (σ 1) (zput (zput M 1 (qLawP (σ 1) (σ 0 1)).1) 2 (σ 0 1))) ∧ 0 ≤ s (0 + 2) 10) ∧
  ((qLawP (σ 1) (σ 0 1)).2 ≠ -1 → s 2 = σ 2 ∧ s 0 8 = σ 0 8 ∧ s 0 9 = σ 0 9)
theorem c_X11_law {G : zG} {lay : zLay} {σ C0 : zMem} {nx x : Int} {M : Int → Int} (hT : TopL lay x) (hS : TxS lay C0) (hxn : x + 313 ≤ nx) (hR : CoR lay x C0 σ (0 + 2) M) (hM : zOC M) (ht : 0 ≤ σ 0 1 ∧ σ 0 1 ≤ 400) (hb : ∀ i, 0 ≤ i → i < 400 → 0 ≤ σ 1 i ∧ σ 1 i ≤ 255) : zMM G 62 KX11_law [zP (x + 0)] lay (tC x σ C0) nx (7, 473) (zLwQ x lay σ C0 nx M) := by
  refine z_met' (L := [zP (x + 0), zU]) gX11_law.1 rfl rfl (Nat.le_of_ble_eq_true rfl) rfl ?_
  have hA := TpAt
  have hx := hT.1
  have hne : x + 0 ≠ -1 := by omega
  have hD := isCo.now
  refine z_al0 eX11_law_0 hne ?_
  first | refine z_ta0 lX11_44 eX11_law_1 rfl hT hA (by decide) rfl rfl ?_ | refine z_ta lX11_44 eX11_law_1 rfl hT hA ⟨by decide, by decide⟩ rfl rfl ?_
  refine z_al0 eX11_law_4 hne ?_
  first | refine z_ta0 lX11_9 eX11_law_5 rfl hT hA (by decide) rfl rfl ?_ | refine z_ta lX11_9 eX11_law_5 rfl hT hA ⟨by decide, by decide⟩ rfl rfl ?_
  refine z_al0 eX11_law_8 hne ?_
  first | refine z_tg0 (j := 1) lX11_69 eX11_law_9 rfl hT hA (by decide) rfl rfl rfl ?_ | refine z_tg (j := 1) lX11_69 eX11_law_9 rfl hT hA ⟨by decide, by decide⟩ rfl rfl rfl ?_
  refine z_V2q (b' := (6, 467)) (b'' := (1, 6)) eX11_law_12 vX11_114 rfl rfl (Nat.le_of_ble_eq_true rfl) (Nat.le_of_ble_eq_true rfl) (LxAt.L0 hT (by decide)) (c_X4_readText hT hS hxn ht rfl hb) ?_ (fun E l c m q => by obtain ⟨s, C, q0, -⟩ := q; cases q0)
  rintro r l c m ⟨s, C, q0, q1, q2, q3, q4, q5, q6, q7, q8⟩
  have q9 := Sum.inl.inj q0
  subst q9
  subst q1
  subst q2
  have hTl : TopL l x := ⟨hT.1, fun i hi => by rw [q3 _ (by unfold inT at hi; omega)]; exact hT.2 i hi⟩
  have hSl : TxS l C := fun t q hq => by
    obtain ⟨a, b, d⟩ := hS t q hq
    exact ⟨by rw [q3 _ (by omega)]; exact a, by rw [q3 _ (by omega)]; exact b, fun i hi => by rw [q4 _ (by omega)]; exact d i hi⟩
  have hT := hTl
  have hS := hSl
  have s0 := q6 0 (by decide) (by decide)
  have s2 := q6 2 (by decide) (by decide)
  have hc : s (0 + 2) = σ (0 + 2) := s2
  by_cases hf : (qLawP (σ 1) (σ 0 1)).2 = -1
  · rw [zbi_t hf]
    obtain ⟨hL, hI⟩ := q8 hf
    have hF := hI.2.2.2.2.1
    have hp0 := hL.p0
    have hn0 : C nx 0 = (qLawP (σ 1) (σ 0 1)).1 := hI.2.1
    have hnb : 0 ≤ (qLawP (σ 1) (σ 0 1)).1 := by rw [← hn0]; exact hI.1.1.1
    have hCR : ∀ S : zMem, (∀ i, i ≠ 0 → S i = zset s (0 + 2) 10 nx i) → CoR l x C S (0 + 2) (qTx (σ 0 1) (σ 1) (zput (zput M 1 (qLawP (σ 1) (σ 0 1)).1) 2 (σ 0 1))) := by
      intro S hS
      have hN1 : CoN s (0 + 2) M := hR.1.far (fun i i0 i1 => q6 _ (by omega) (by omega))
      have hN2 : CoN (zset s (0 + 2) 10 nx) (0 + 2) (qTx (σ 0 1) (σ 1) (zput (zput M 1 (qLawP (σ 1) (σ 0 1)).1) 2 (σ 0 1))) := hN1.lw hM.I (fun j j0 j1 => by rw [qTx_lo j1, zput_ne (by omega), zput_ne (by omega)])
      refine ⟨hN2.far (fun i i0 i1 => hS _ (by omega)), Or.inr ⟨?_, σ 0 1, ?_⟩⟩
      · rw [qTx_lo (by decide), zput_ne (by decide), zput_eq]; exact hnb
      · rw [hS (0 + 2) (by decide), zset_eq]
        exact LwM.read ht hL hI (fun k k0 k1 => (hb k k0 k1).1)
    refine z_is1 eX11_law_15 (Nat.ne_of_beq_eq_false rfl) ?_
    refine z_al0 eX11_law_16 hne ?_
    refine z_al0 eX11_law_17 hne ?_
    first | refine z_ta0 lX11_44 eX11_law_18 rfl hT hA (by decide) rfl rfl ?_ | refine z_ta lX11_44 eX11_law_18 rfl hT hA ⟨by decide, by decide⟩ rfl rfl ?_
    first | refine z_ta0 lX11_117 eX11_law_21 rfl hT LxAt (by decide) rfl rfl ?_ | refine z_ta lX11_117 eX11_law_21 rfl hT LxAt ⟨by decide, by decide⟩ rfl rfl ?_
    first | refine z_tg0 (j := 0) lX11_84 eX11_law_24 rfl hT WdAt.b (by decide) rfl rfl rfl ?_ | refine z_tg (j := 0) lX11_84 eX11_law_24 rfl hT WdAt.b ⟨by decide, by decide⟩ rfl rfl rfl ?_
    first | refine z_tp0 (j := 2) lX11_13 eX11_law_27 rfl hT hA (by decide) rfl rfl rfl ?_ | refine z_tp (j := 2) lX11_13 eX11_law_27 rfl hT hA ⟨by decide, by decide⟩ rfl rfl rfl ?_
    refine z_al0 eX11_law_30 hne ?_
    refine z_iconst eX11_law_31 ?_
    first | refine z_tp0 (j := 1) lX11_69 eX11_law_32 rfl hT hA (by decide) rfl rfl rfl ?_ | refine z_tp (j := 1) lX11_69 eX11_law_32 rfl hT hA ⟨by decide, by decide⟩ rfl rfl rfl ?_
    refine z_il1 eX11_law_35 ?_
    refine z_if_ne (tgt := 49) eX11_law_36 rfl ⟨by omega, by omega⟩ (fun h36 => ?_) (fun h36 => (by exfalso; omega))
    refine z_al0 eX11_law_49 hne ?_
    first | refine z_ta0 lX11_20 eX11_law_50 rfl hT hA (by decide) rfl rfl ?_ | refine z_ta lX11_20 eX11_law_50 rfl hT hA ⟨by decide, by decide⟩ rfl rfl ?_
    refine z_al0 eX11_law_53 hne ?_
    first | refine z_ta0 lX11_44 eX11_law_54 rfl hT hA (by decide) rfl rfl ?_ | refine z_ta lX11_44 eX11_law_54 rfl hT hA ⟨by decide, by decide⟩ rfl rfl ?_
    first | refine z_td0 (j := 1) lX11_120 eX11_law_57 rfl hT LxAt (by decide) rfl rfl rfl ?_ | refine z_td (j := 1) lX11_120 eX11_law_57 rfl hT LxAt ⟨by decide, by decide⟩ rfl rfl rfl ?_
    rw [show zset (zset s 0 2 (s (0 + 294 + 1) 0)) 0 1 0 (0 + 294) 1 = nx by rw [zset_o (by decide), zset_o (by decide)]; exact q7]
    first | refine z_tpd0 (j := 10) lX11_123 eX11_law_60 rfl rfl hT hD (by decide) rfl rfl rfl ?_ | refine z_tpd (j := 10) lX11_123 eX11_law_60 rfl rfl hT hD ⟨by decide, by decide⟩ rfl rfl rfl ?_
    refine z_al0 eX11_law_63 hne ?_
    refine z_V0v eX11_law_64 vX11_111 rfl rfl (Nat.le_of_ble_eq_true rfl) (Nat.le_of_ble_eq_true rfl) ((hA).L0 hT (by decide)) (c_X11_forgetActs hT) ?_
    refine z_al0 eX11_law_67 hne ?_
    first | refine z_ta0 lX11_44 eX11_law_68 rfl hT hA (by decide) rfl rfl ?_ | refine z_ta lX11_44 eX11_law_68 rfl hT hA ⟨by decide, by decide⟩ rfl rfl ?_
    first | refine z_td0 (j := 1) lX11_120 eX11_law_71 rfl hT LxAt (by decide) rfl rfl rfl ?_ | refine z_td (j := 1) lX11_120 eX11_law_71 rfl hT LxAt ⟨by decide, by decide⟩ rfl rfl rfl ?_
    rw [show zset (zset (zset (zset (zset s 0 2 (s (0 + 294 + 1) 0)) 0 1 0) (0 + 2) 10 nx) 0 9 0) 0 8 0 (0 + 294) 1 = nx by rw [zset_o (by decide), zset_o (by decide), zset_o (by decide), zset_o (by decide), zset_o (by decide)]; exact q7]
    refine z_og (j := 0) lX11_126 eX11_law_74 rfl hL.n0 hL.l0 rfl ?_
    refine z_ireturn eX11_law_77 rfl ?_
    refine ⟨_, C, rfl, rfl, q3, q4, by rw [if_pos hf, hn0], ?_, ?_, ?_, ?_, fun _ => ⟨?_, ?_, ?_, ?_⟩, fun z => absurd hf z⟩
    · rw [zset_f (by decide), zset_f (by decide), zset_o (by decide), zset_f (by decide), zset_eq]; exact q5
    · rw [zset_f (by decide), zset_f (by decide), zset_o (by decide), zset_eq]
    · intro j j1 j2 j8 j9; rw [zset_f j8, zset_f j9, zset_o (by decide), zset_f j1, zset_f j2, s0]
    · intro i i0 i2 i3 i4; rw [zset_o i0, zset_o i0, zset_o (by omega), zset_o i0, zset_o i0]; exact q6 i i4 i3
    · exact zset_eq
    · rw [zset_f (by decide)]; exact zset_eq
    · refine hCR _ (fun i hi => ?_); rw [zset_o hi, zset_o hi]; exact zset_cg (by rw [zset_o hi, zset_o hi])
    · rw [zset_o (by decide), zset_o (by decide), zset_eq]; exact hp0
  · rw [zbi_f hf]
    refine z_is1 eX11_law_15 (Nat.ne_of_beq_eq_false rfl) ?_
    refine z_al0 eX11_law_16 hne ?_
    refine z_al0 eX11_law_17 hne ?_
    first | refine z_ta0 lX11_44 eX11_law_18 rfl hT hA (by decide) rfl rfl ?_ | refine z_ta lX11_44 eX11_law_18 rfl hT hA ⟨by decide, by decide⟩ rfl rfl ?_
    first | refine z_ta0 lX11_117 eX11_law_21 rfl hT LxAt (by decide) rfl rfl ?_ | refine z_ta lX11_117 eX11_law_21 rfl hT LxAt ⟨by decide, by decide⟩ rfl rfl ?_
    first | refine z_tg0 (j := 0) lX11_84 eX11_law_24 rfl hT WdAt.b (by decide) rfl rfl rfl ?_ | refine z_tg (j := 0) lX11_84 eX11_law_24 rfl hT WdAt.b ⟨by decide, by decide⟩ rfl rfl rfl ?_
    first | refine z_tp0 (j := 2) lX11_13 eX11_law_27 rfl hT hA (by decide) rfl rfl rfl ?_ | refine z_tp (j := 2) lX11_13 eX11_law_27 rfl hT hA ⟨by decide, by decide⟩ rfl rfl rfl ?_
    refine z_al0 eX11_law_30 hne ?_
    refine z_iconst eX11_law_31 ?_
    first | refine z_tp0 (j := 1) lX11_69 eX11_law_32 rfl hT hA (by decide) rfl rfl rfl ?_ | refine z_tp (j := 1) lX11_69 eX11_law_32 rfl hT hA ⟨by decide, by decide⟩ rfl rfl rfl ?_
    refine z_il1 eX11_law_35 ?_
    refine z_if_ne (tgt := 49) eX11_law_36 rfl ⟨by omega, by omega⟩ (fun h36 => (by exfalso; omega)) (fun h36 => ?_)
    exact z_throw (sn := 44) rfl zth_89 rfl rfl eX11_law_39 eX11_law_42 eX11_law_43 eX11_law_45 eX11_law_48 (Nat.le_of_ble_eq_true rfl) ⟨(Nat.le_of_ble_eq_true rfl), (Nat.le_of_ble_eq_true rfl)⟩ (by refine ⟨_, C, rfl, rfl, q3, q4, by rw [if_neg hf], ?_, zset_eq, ?_, ?_, fun z => absurd z hf, fun _ => ⟨?_, ?_, ?_⟩⟩; exact (by rw [zset_f (by decide), zset_eq]; exact q5); exact (fun j j1 j2 j8 j9 => by rw [zset_f j1, zset_f j2, s0]); exact (fun i i0 i2 i3 i4 => by rw [zset_o i0, zset_o i0]; exact q6 i i4 i3); exact (by rw [zset_o (by decide), zset_o (by decide)]; exact s2); exact (by rw [zset_f (by decide), zset_f (by decide), s0]); exact (by rw [zset_f (by decide), zset_f (by decide), s0]))
