/-! The law's loop: rows. -/
theorem z_free {G : zG} {k : zK} {D : Nat} {Q : zQ} {pc : Nat} {L st : List zAV} {lay : zLay} {C : zMem} {nx : Int} {b : Nat × Nat} (w : (∀ o, nx ≤ o → (lay o).1 = 0) → zW G k D Q pc L st lay C nx b) : zW G k D Q pc L st lay C nx b := by
  intro p e R s m args below meth c H locs cells slots mc ms ls α₀ lay₀ α cx he hw
  exact w hw.2.2.2.2.2.2.1 p e R s m args below meth c H locs cells slots mc ms ls α₀ lay₀ α cx he hw
def zNb (v : Int) : Int := if v = 0 then 0 else 1
theorem zNb_01 {v : Int} : zNb v = 0 ∨ zNb v = 1 := by
  unfold zNb
  split
  · exact Or.inl rfl
  · exact Or.inr rfl
/-- between two rounds -/
def Lp (lay : zLay) (x y nx W n : Int) (S : Int → Int) (C s σ : zMem) : Prop := (Wd lay x y nx C σ) ∧ (Rel lay x C s σ) ∧ (lay (-5) = (103, n)) ∧ (∀ j, C (-5) j = S j) ∧ (lay W = (101, 1)) ∧ (y + 12 ≤ W ∧ W < nx)
theorem Lp.wd {lay : zLay} {x y nx W n : Int} {S : Int → Int} {C s σ : zMem} (h : Lp lay x y nx W n S C s σ) : Wd lay x y nx C σ := h.1
theorem Lp.re {lay : zLay} {x y nx W n : Int} {S : Int → Int} {C s σ : zMem} (h : Lp lay x y nx W n S C s σ) : Rel lay x C s σ := h.2.1
theorem Lp.sc {lay : zLay} {x y nx W n : Int} {S : Int → Int} {C s σ : zMem} (h : Lp lay x y nx W n S C s σ) : lay (-5) = (103, n) := h.2.2.1
theorem Lp.ss {lay : zLay} {x y nx W n : Int} {S : Int → Int} {C s σ : zMem} (h : Lp lay x y nx W n S C s σ) : ∀ j, C (-5) j = S j := h.2.2.2.1
theorem Lp.wl {lay : zLay} {x y nx W n : Int} {S : Int → Int} {C s σ : zMem} (h : Lp lay x y nx W n S C s σ) : lay W = (101, 1) := h.2.2.2.2.1
theorem Lp.wx {lay : zLay} {x y nx W n : Int} {S : Int → Int} {C s σ : zMem} (h : Lp lay x y nx W n S C s σ) : y + 12 ≤ W ∧ W < nx := h.2.2.2.2.2
/-- the class has been called, the reference not yet -/
def Lq (lay : zLay) (x y nx W n : Int) (S : Int → Int) (C s σ : zMem) (Pz : zMem → Prop) : Prop := (Wd lay x y nx C σ) ∧ (∀ τ, Pz τ → Rel lay x C s τ) ∧ (lay (-5) = (103, n)) ∧ (∀ j, C (-5) j = S j) ∧ (lay W = (101, 1)) ∧ (y + 12 ≤ W ∧ W < nx)
theorem Lq.wd {lay : zLay} {x y nx W n : Int} {S : Int → Int} {C s σ : zMem} {Pz : zMem → Prop} (h : Lq lay x y nx W n S C s σ Pz) : Wd lay x y nx C σ := h.1
theorem Lq.re {lay : zLay} {x y nx W n : Int} {S : Int → Int} {C s σ : zMem} {Pz : zMem → Prop} (h : Lq lay x y nx W n S C s σ Pz) : ∀ τ, Pz τ → Rel lay x C s τ := h.2.1
theorem Lq.sc {lay : zLay} {x y nx W n : Int} {S : Int → Int} {C s σ : zMem} {Pz : zMem → Prop} (h : Lq lay x y nx W n S C s σ Pz) : lay (-5) = (103, n) := h.2.2.1
theorem Lq.ss {lay : zLay} {x y nx W n : Int} {S : Int → Int} {C s σ : zMem} {Pz : zMem → Prop} (h : Lq lay x y nx W n S C s σ Pz) : ∀ j, C (-5) j = S j := h.2.2.2.1
theorem Lq.wl {lay : zLay} {x y nx W n : Int} {S : Int → Int} {C s σ : zMem} {Pz : zMem → Prop} (h : Lq lay x y nx W n S C s σ Pz) : lay W = (101, 1) := h.2.2.2.2.1
theorem Lq.wx {lay : zLay} {x y nx W n : Int} {S : Int → Int} {C s σ : zMem} {Pz : zMem → Prop} (h : Lq lay x y nx W n S C s σ Pz) : y + 12 ≤ W ∧ W < nx := h.2.2.2.2.2
theorem Wd.xne {lay : zLay} {x y nx : Int} {C σ : zMem} (h : Wd lay x y nx C σ) : x + 0 ≠ -1 := by
  have := h.T.1
  omega
theorem Wd.yne {lay : zLay} {x y nx : Int} {C σ : zMem} (h : Wd lay x y nx C σ) : y ≠ -1 := h.R.ne
theorem tC_5 {lay : zLay} {x j : Int} {s C : zMem} (h : TopL lay x) : tC x s C (-5) j = C (-5) j := by
  have := h.1
  exact tC_out (by unfold inT; omega)
theorem Lp.st {lay : zLay} {x y nx W n : Int} {S : Int → Int} {C s σ : zMem} (h : Lp lay x y nx W n S C s σ) {j : Int} : tC x s C (-5) j = S j := by
  rw [tC_5 h.wd.T]; exact h.ss j
theorem Lq.st {lay : zLay} {x y nx W n : Int} {S : Int → Int} {C s σ : zMem} {P' : zMem → Prop} (h : Lq lay x y nx W n S C s σ P') {j : Int} : tC x s C (-5) j = S j := by
  rw [tC_5 h.wd.T]; exact h.ss j
theorem TxS.tC {lay : zLay} {x : Int} {s C : zMem} (h : TxS lay C) (hx : 0 ≤ x) : TxS lay (Jvm.Pilot.CDrizzleVoteLaw_law_r7055_98a513.tC x s C) := by
  intro t q hq
  obtain ⟨a, b, d⟩ := h t q hq
  exact ⟨a, b, fun i hi => by rw [tC_out (by unfold inT; omega)]; exact d i hi⟩
abbrev zLL (x y W i : Int) (v5 v6 : zAV) : List zAV := [zP (-5), zP (x + 0), zP y, zP W, zI i, v5, v6]
section ZLOOP
variable {G : zG} {Q : zQ} {lay : zLay} {C s σ : zMem} {x y nx W n i v v' kk : Int} {S : Int → Int} {b c : Nat × Nat} {L st av : List zAV} {pc pc' p1 p2 p3 p4 p5 m D1 idx : Nat} {E1 E2 : String} {P' : zMem → Prop} {KK : zK}
theorem z_arg {j : Int} {a1 a2 a3 a5 a6 : zAV} {C : zMem} (h1 : zD KL_law_ pc (.aload_n 0) 1 p1) (h2 : zD KL_law_ p1 (.iload 4) 2 p2) (h3 : zD KL_law_ p2 (.iconst j) 1 p3) (h4 : zD KL_law_ p3 .iadd 1 p4) (h5 : zD KL_law_ p4 .iaload 1 p5) (hs : lay (-5) = (103, n)) (hL : n < 2147483648) (hi : 0 ≤ i + j ∧ i + j < n) (hv : C (-5) (i + j) = v) (w : zW G KL_law_ 100 Q p5 [zP (-5), a1, a2, a3, zI i, a5, a6] (zI v :: st) lay C nx b) : zW G KL_law_ 100 Q pc [zP (-5), a1, a2, a3, zI i, a5, a6] st lay C nx b := by
  refine z_al0 h1 (by decide) (z_il4 h2 (z_iconst h3 (z_iadd h4 (z_sload h5 hs hi hL ?_))))
  rw [hv]
  exact w
theorem z_bool {C : zMem} (h1 : zD KL_law_ pc (.ifCond .eq 7) 3 p1) (h2 : zD KL_law_ p1 (.iconst 1) 1 p2) (h3 : zD KL_law_ p2 (.goto 4) 3 p3) (h4 : zD KL_law_ p3 (.iconst 0) 1 p4) (ht : zT pc 7 p3) (ht2 : zT p2 4 p4) (hv : zin v) (w : zW G KL_law_ 100 Q p4 L (zI (zNb v) :: st) lay C nx b) : zW G KL_law_ 100 Q pc L (zI v :: st) lay C nx b := by
  refine z_if_eq h1 ht hv (fun z => ?_) (fun z => ?_)
  · refine z_iconst h4 ?_
    rw [show zNb v = 0 from if_pos z] at w
    exact w
  · refine z_iconst h2 (z_goto h3 ht2 ?_)
    rw [show zNb v = 1 from if_neg z] at w
    exact w
theorem z_hst (hd : zD KL_law_ pc (.invokestatic idx) 3 pc') (hf : zXc_ RL idx KK m) (hh : zMM G D1 KK av lay (tC x s C) nx b (zHQ lay x y nx W C σ kk v P')) (hD : D1 + 1 ≤ 100) (hn : av.length = m) (hrest : st.length ≤ 4) (h : Lp lay x y nx W n S C s σ)
    (w : ∀ l' m' s' C', Lq l' x y m' W n S C' s' σ P' → (kk = 0 → C' W 0 = v) → zW G KL_law_ 100 Q pc' L (zI kk :: st) l' (tC x s' C') m' c) : zW G KL_law_ 100 Q pc L (av.reverse ++ st) lay (tC x s C) nx (b.1 + c.1, b.2 + c.2) := by
  obtain ⟨f1, f2, f3⟩ := hf
  have hyn := h.wd.n
  have hy0 := h.wd.R.1
  have hW := h.wx
  have h9 := z_callSX (b'' := c) (Q := Q) (L := L) (st := st) hd rfl f1 f2 f3 hh hD hn hrest
    (fun r l c9 m9 q => by
      obtain ⟨s', C', q1, q2, q3, q4, q5, q6, q7, q8⟩ := q
      have e := Sum.inl.inj q2
      subst e
      subst q1
      refine w l m9 s' C' ⟨q6, q8, by rw [q4 _ (by omega)]; exact h.sc, fun j => ?_, by rw [q4 _ (by omega)]; exact h.wl, ⟨hW.1, by omega⟩⟩ q3
      rw [q7 (-5) (by omega) (by rw [h.sc]; exact (by decide : (103 : Nat) ≠ 100)) (by omega)]
      exact h.ss j)
    (fun E l c9 m9 q => by
      obtain ⟨s', C', q1, q2, q3⟩ := q
      cases q2)
  exact h9
theorem z_dst (hd : zD KL_law_ pc (.invokevirtual idx) 3 pc') (hf : zVc RL idx KK m 11) (hM : zMM G D1 KK (zP (x + 0) :: av) lay (tC x s C) nx b (zEg lay x y nx C σ 0 v E1 E2 P')) (hD : D1 + 1 ≤ 100) (hn : av.length = m) (hrest : st.length ≤ 4) (h : Lp lay x y nx W n S C s σ)
    (w : ∀ l' m' s' C', Lq l' x y m' W n S C' s' σ P' → zW G KL_law_ 100 Q pc' L (zI v :: st) l' (tC x s' C') m' c) : zW G KL_law_ 100 Q pc L (av.reverse ++ zP (x + 0) :: st) lay (tC x s C) nx (b.1 + c.1, b.2 + c.2) := by
  obtain ⟨f1, f2, f3, r0, f4, f5⟩ := hf
  have hyn := h.wd.n
  have hy0 := h.wd.R.1
  have hW := h.wx
  have hox : lay (x + 0) = (11 + 1, 15) := h.wd.T.2 0 (Or.inl ⟨by decide, by decide⟩)
  have h9 := z_callV (b'' := c) (Q := Q) (L := L) (st := st) hd rfl f1 f2 f3 hM hD hox f4 f5 hn hrest
    (fun r l c9 m9 q => by
      obtain ⟨s', C', q1, q2, q3, q4, q5, q6, q7⟩ := q
      have e := Sum.inl.inj (q4.trans (show zKo 0 v E1 E2 = .inl (some (zI v)) from if_pos rfl))
      subst e
      subst q1
      refine w l m9 s' C' ⟨q5, q7, by rw [q2 _ (by omega)]; exact h.sc, fun j => ?_, by rw [q2 _ (by omega)]; exact h.wl, ⟨hW.1, by omega⟩⟩
      rw [q6 (-5) (by omega) (by rw [h.sc]; exact (by decide : (103 : Nat) ≠ 100))]
      exact h.ss j)
    (fun E l c9 m9 q => by
      obtain ⟨s', C', q1, q2, q3, q4, q5⟩ := q
      have e := q4.trans (show zKo 0 v E1 E2 = .inl (some (zI v)) from if_pos rfl)
      cases e)
  exact h9
theorem z_rst (hd : zD KL_law_ pc (.invokevirtual idx) 3 pc') (hf : zVc RL idx KK m 12) (hR : ∀ (lay' : zLay) (nx' : Int) (C0 : zMem), RefL lay' y → TxS lay' C0 → zMM G D1 KK (zP y :: av) lay' (rC y σ C0) nx' (0, 0) (zRf lay' y nx' C0 kk v' P')) (hD : D1 + 1 ≤ 100) (hn : av.length = m) (hrest : st.length ≤ 4) (h : Lq lay x y nx W n S C s σ P')
    (w : ∀ C' τ, τ 0 0 = kk → Lp lay x y nx W n S C' s τ → C' W = C W → zW G KL_law_ 100 Q pc' L (zI v' :: st) lay (tC x s C') nx c) : zW G KL_law_ 100 Q pc L (av.reverse ++ zP y :: st) lay (tC x s C) nx c := by
  obtain ⟨f1, f2, f3, r0, f4, f5⟩ := hf
  have hy0 := h.wd.R.1
  have hM := hR lay nx (tC x s C) h.wd.R (h.wd.S.tC h.wd.T.1)
  rw [← h.wd.eq] at hM
  have h9 := z_callV (b'' := c) (Q := Q) (L := L) (st := st) hd rfl f1 f2 f3 hM hD h.wd.R.x f4 f5 hn hrest
    (fun r l c9 m9 q => by
      obtain ⟨τ, q1, q2, q3, q4, q5, q6⟩ := q
      have e := Sum.inl.inj q4
      subst e
      rw [q1, q2, q3, h.wd.swap]
      refine w _ τ q5 ⟨h.wd.rc, (h.re τ q6).rc h.wd.R, h.sc, fun j => ?_, h.wl, h.wx⟩ (rC_out (Or.inr h.wx.1))
      rw [rC_out (Or.inl (by omega))]
      exact h.ss j)
    (fun E l c9 m9 q => by
      obtain ⟨τ, q1, q2, q3, q4, q5⟩ := q
      cases q4)
  exact zW.mono ⟨Nat.le_of_eq (Nat.zero_add _), Nat.le_of_eq (Nat.zero_add _)⟩ h9
theorem z_thr (hd : zD KL_law_ pc (.invokevirtual 170) 3 pc') (hrest : st.length ≤ 4) (h : Lp lay x y nx W n S C s σ) (w : zW G KL_law_ 100 Q pc' L (zI (σ 0 0) :: st) lay (tC x s C) nx c) : zW G KL_law_ 100 Q pc L (zP y :: st) lay (tC x s C) nx c := by
  obtain ⟨f1, f2, f3, r0, f4, f5⟩ := vL_170
  have hM := m_X12_thrown (G := G) (lay := lay) (σ := σ) (C0 := tC x s C) (nx := nx) h.wd.R
  rw [← h.wd.eq] at hM
  have h9 := z_callV (b'' := c) (Q := Q) (L := L) (st := st) (av := []) hd rfl f1 f2 f3 hM (Nat.le_of_ble_eq_true rfl) h.wd.R.x f4 f5 rfl hrest
    (fun r l c9 m9 q => by
      obtain ⟨q1, q2, q3, q4⟩ := q
      have e := Sum.inl.inj q1
      subst e
      rw [q2, q3, q4]
      exact w)
    (fun E l c9 m9 q => by
      obtain ⟨q1, q2, q3, q4⟩ := q
      cases q1)
  exact zW.mono ⟨Nat.le_of_eq (Nat.zero_add _), Nat.le_of_eq (Nat.zero_add _)⟩ h9
/-- on with the next -/
def zGo (G : zG) (Q : zQ) (x y W n i : Int) (S : Int → Int) (c : Nat × Nat) : Prop := ∀ (lay : zLay) (nx : Int) (C s σ : zMem) (v5 v6 : zAV), Lp lay x y nx W n S C s σ → zW G KL_law_ 100 Q 3352 (zLL x y W i v5 v6) [] lay (tC x s C) nx c
theorem zwr_zJ {w : Int} : zin8 (zwr w) := by
  have h := zwr_in w
  unfold zin at h
  unfold zin8
  omega
theorem zcmp_rf {w : Int} : zcmp w w = 0 := by
  unfold zcmp
  rw [if_neg (by omega), if_pos rfl]
theorem z_lcmp_rf {w : Int} {C : zMem} (hd : zD KL_law_ pc .lcmp 1 pc') (hw : zin8 w) (g : zW G KL_law_ 100 Q pc' L (zI 0 :: st) lay C nx b) : zW G KL_law_ 100 Q pc L (zJ w :: zJ w :: st) lay C nx b := by
  refine z_lcmp hd ⟨hw, hw⟩ ?_
  rw [zcmp_rf]
  exact g
theorem z_tail {t t1 t2 t3 t4 t5 t7 t8 t9 ta tb tc td te tf tg th tj : Nat} {o off : Int} {v6 : zAV} (hg : zGo G Q x y W n i S c) (h : Lp lay x y nx W n S C s σ) (hk : σ 0 0 = kk) (h012 : kk = 0 ∨ kk = 1 ∨ (kk = 2 ∧ E1 ≠ E2)) (hv : kk = 0 → C W 0 = zwr v') (e1 : zD KL_law_ t (.istore 6) 2 t1) (e2 : zD KL_law_ t1 (.aload_n 2) 1 t2) (e3 : zD KL_law_ t2 (.invokevirtual 170) 3 t3) (e4 : zD KL_law_ t3 (.iload 5) 2 t4) (e5 : zD KL_law_ t4 (.if_icmp .eq 5) 3 t5) (ht : zT t4 5 t7) (e8 : zD KL_law_ t7 (.iload 5) 2 t8) (e9 : zD KL_law_ t8 (.ifCond .ne o) 3 t9) (ht2 : zT t8 o th) (ea : zD KL_law_ t9 (.aload_n 3) 1 ta) (eb : zD KL_law_ ta (.iconst 0) 1 tb) (ec : zD KL_law_ tb .laload 1 tc) (ed : zD KL_law_ tc (.iload 6) 2 td) (ee : zD KL_law_ td .i2l 1 te) (ef : zD KL_law_ te .lcmp 1 tf) (eg : zD KL_law_ tf (.ifCond .eq 5) 3 tg) (ht3 : zT tf 5 th) (eh : zD KL_law_ th (.goto off) 3 tj) (ht4 : zT th off 3352) : zW G KL_law_ 100 Q t (zLL x y W i (zI kk) v6) [zI v'] lay (tC x s C) nx c := by
  have hz : zin kk := by unfold zin; omega
  have hW := h.wx
  have hd := h.wd.d
  have hx := h.wd.T.1
  refine z_is6 e1 (Nat.ne_of_beq_eq_false rfl) (z_al2 e2 h.wd.yne (z_thr e3 (Nat.le_of_ble_eq_true rfl) h ?_))
  rw [hk]
  refine z_il5 e4 (z_icmp_eq_rf e5 ht (z_il5 e8 (z_if_ne e9 ht2 hz (fun _ => ?_) (fun z => ?_))))
  · exact z_goto eh ht4 (hg _ _ _ _ _ _ _ h)
  · refine z_al3 ea (by omega) (z_iconst eb (z_laload ec h.wl ⟨by decide, by decide⟩ ?_))
    rw [show tC x s C W 0 = zwr v' from (tC_out (by unfold inT; omega)).trans (hv z)]
    refine z_il6 ed (zW.wr (z_i2l ee (zwr_in v') (z_lcmp_rf ef zwr_zJ (z_if_eq eg ht3 (by decide) (fun _ => ?_) (fun z => absurd rfl z)))))
    exact z_goto eh ht4 (hg _ _ _ _ _ _ _ h)
theorem z_tailB {t t1 t2 t3 t4 t5 t7 t8 t9 ta tb tc td te tf tg th ti tj tk : Nat} {o off : Int} {v6 : zAV} (hg : zGo G Q x y W n i S c) (h : Lp lay x y nx W n S C s σ) (hk : σ 0 0 = kk) (h012 : kk = 0 ∨ kk = 1 ∨ (kk = 2 ∧ E1 ≠ E2)) (hv : kk = 0 → C W 0 = if v' = 0 then 0 else 1) (hb : v' = 0 ∨ v' = 1) (e1 : zD KL_law_ t (.istore 6) 2 t1) (e2 : zD KL_law_ t1 (.aload_n 2) 1 t2) (e3 : zD KL_law_ t2 (.invokevirtual 170) 3 t3) (e4 : zD KL_law_ t3 (.iload 5) 2 t4) (e5 : zD KL_law_ t4 (.if_icmp .eq 5) 3 t5) (ht : zT t4 5 t7) (e8 : zD KL_law_ t7 (.iload 5) 2 t8) (e9 : zD KL_law_ t8 (.ifCond .ne o) 3 t9) (ht2 : zT t8 o tj) (ea : zD KL_law_ t9 (.aload_n 3) 1 ta) (eb : zD KL_law_ ta (.iconst 0) 1 tb) (ec : zD KL_law_ tb .laload 1 tc) (ed : zD KL_law_ tc (.iload 6) 2 td) (ee : zD KL_law_ td (.ifCond .eq 7) 3 te) (hte : zT td 7 tg) (e1' : zD KL_law_ te (.lconst 1) 1 tf) (e2' : zD KL_law_ tf (.goto 4) 3 tg) (htf : zT tf 4 th) (e3' : zD KL_law_ tg (.lconst 0) 1 th) (ef : zD KL_law_ th .lcmp 1 ti) (eg : zD KL_law_ ti (.ifCond .eq 5) 3 tk) (ht3 : zT ti 5 tj) (eh : zD KL_law_ tj (.goto off) 3 pc') (ht4 : zT tj off 3352) : zW G KL_law_ 100 Q t (zLL x y W i (zI kk) v6) [zI v'] lay (tC x s C) nx c := by
  have hz : zin kk := by unfold zin; omega
  have hzv : zin v' := by unfold zin; omega
  have hW := h.wx
  have hd := h.wd.d
  have hx := h.wd.T.1
  have hfin : zW G KL_law_ 100 Q tj (zLL x y W i (zI kk) (zI v')) [] lay (tC x s C) nx c := z_goto eh ht4 (hg _ _ _ _ _ _ _ h)
  refine z_is6 e1 (Nat.ne_of_beq_eq_false rfl) (z_al2 e2 h.wd.yne (z_thr e3 (Nat.le_of_ble_eq_true rfl) h ?_))
  rw [hk]
  refine z_il5 e4 (z_icmp_eq_rf e5 ht (z_il5 e8 (z_if_ne e9 ht2 hz (fun _ => ?_) (fun z => ?_))))
  · exact hfin
  · refine z_al3 ea (by omega) (z_iconst eb (z_laload ec h.wl ⟨by decide, by decide⟩ ?_))
    rw [show tC x s C W 0 = if v' = 0 then 0 else 1 from (tC_out (by unfold inT; omega)).trans (hv z)]
    refine z_il6 ed (z_if_eq ee hte hzv (fun q => ?_) (fun q => ?_))
    · rw [if_pos q]
      exact z_lconst0 e3' (z_lcmp_rf ef (by decide) (z_if_eq eg ht3 (by decide) (fun _ => hfin) (fun z => absurd rfl z)))
    · rw [if_neg q]
      exact z_lconst1 e1' (z_goto e2' htf (z_lcmp_rf ef (by decide) (z_if_eq eg ht3 (by decide) (fun _ => hfin) (fun z => absurd rfl z))))
end ZLOOP
