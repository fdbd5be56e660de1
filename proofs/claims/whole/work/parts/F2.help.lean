/-! The law's helpers: a call of the class, its throws caught. -/
def zwr (v : Int) : Int := (Int32.ofInt v).toInt
theorem zwr_in (v : Int) : zin (zwr v) := by
  have h1 := Int32.le_toInt (Int32.ofInt v)
  have h2 := Int32.toInt_lt (Int32.ofInt v)
  exact ⟨h1, h2⟩
theorem zwr_of (v : Int) : Int32.ofInt (zwr v) = Int32.ofInt v := Int32.ofInt_toInt _
theorem zW.wr {G : zG} {k : zK} {D : Nat} {Q : zQ} {pc : Nat} {L st : List zAV} {lay : zLay} {C : zMem} {nx v : Int} {b : Nat × Nat} (w : zW G k D Q pc L (zI (zwr v) :: st) lay C nx b) : zW G k D Q pc L (zI v :: st) lay C nx b := by
  intro p e R s m args below meth c H locs cells slots mc ms ls α₀ lay₀ α cx he hw hL hs hz hlo hc hm hl
  have h := w p e R s m args below meth c H locs cells slots mc ms ls α₀ lay₀ α cx he hw hL (zok_c zok_I (zok_t hs)) hz hlo hc hm hl
  have e1 : zc α (zI (zwr v)) = zc α (zI v) := by rw [zc_I, zc_I, zwr_of]
  rw [List.map_cons, e1] at h
  exact h
def zHE (lay : zLay) (x y nx : Int) (C σ : zMem) (P' : zMem → Prop) (l : zLay) (n : Int) (s' C' : zMem) : Prop := (∀ o, o < nx → l o = lay o) ∧ nx ≤ n ∧ Wd l x y n C' σ ∧ (∀ o, o < nx → (lay o).1 ≠ 100 → C' o = C o) ∧ ∀ τ, P' τ → Rel l x C' s' τ
/-- a helper's end: what was thrown, and the answer in the long -/
def zHQ (lay : zLay) (x y nx W : Int) (C σ : zMem) (kk v : Int) (P' : zMem → Prop) : zQ := fun o l c n => ∃ s' C' : zMem, c = tC x s' C' ∧ o = .inl (some (zI kk)) ∧ (kk = 0 → C' W 0 = v) ∧ (∀ o, o < nx → l o = lay o) ∧ nx ≤ n ∧ Wd l x y n C' σ ∧ (∀ o, o < nx → (lay o).1 ≠ 100 → o ≠ W → C' o = C o) ∧ ∀ τ, P' τ → Rel l x C' s' τ
section ZHELP
variable {G : zG} {k k' : zK} {D D' : Nat} {Q : zQ} {lay : zLay} {C s σ : zMem} {x y nx W kk v : Int} {b : Nat × Nat} {L st av : List zAV} {pc pc' n idx ci : Nat} {nn : Int} {own E1 E2 : String} {P' : zMem → Prop}
theorem z_metHs (hg1 : plainName k.1.cls = true) (hh : k.2.2.2.2 ≠ []) (ha : av.all (fun v => v.1 != 1) = true) (hn : av.length ≤ k.2.2.1) (hL : av ++ List.replicate (k.2.2.1 - av.length) zU = L) (w : zW G k D Q 0 L [] lay C nx b) : zMM G D k av lay C nx b Q :=
  z_metH hg1 hh (fun v hv => by have := List.all_eq_true.mp ha v hv; simpa using this) hn (by rw [hL]; exact w)
theorem zHE.out {l : zLay} {m : Int} {s' C' : zMem} (h : zHE lay x y nx C σ P' l m s' C') (hW : lay W = (101, 1)) (hWx : y + 12 ≤ W ∧ W < nx) (u : Int) (hk : kk = 0 → u = v) : zHQ lay x y nx W C σ kk v P' (.inl (some (zI kk))) l (tC x s' (zset C' W 0 u)) m := by
  obtain ⟨h1, h2, h3, h4, h5⟩ := h
  have hd := h3.d
  have hx := h3.T.1
  refine ⟨s', _, rfl, rfl, fun z => by rw [zset_eq]; exact hk z, h1, h2, ⟨h3.T, h3.R, h3.d, h3.n, fun t q hq => ?_, fun o o0 o1 => ?_⟩, fun o o0 o1 o2 => by rw [zset_o o2]; exact h4 o o0 o1, fun τ hτ => ?_⟩
  · obtain ⟨a, b, d⟩ := h3.S t q hq
    exact ⟨a, b, fun i hi => by rw [zset_o (by omega)]; exact d i hi⟩
  · rw [zset_o (by omega), h3.h o o0 o1]; exact rC_in ⟨o0, o1⟩
  · have r := h5 τ hτ
    have lW : l W = (101, 1) := by rw [h1 W hWx.2]; exact hW
    have g : ∀ p M, CoL l x C' p M → CoL l x (zset C' W 0 u) p M := by
      intro p M h
      rcases h with h | ⟨h, n9, h2⟩
      · exact Or.inl h
      · have A := h2.A
        refine Or.inr ⟨h, n9, h2.cg ⟨zset_o (fun e => ?_), zset_o (fun e => ?_), zset_o (fun e => ?_), zset_o (fun e => ?_), zset_o (fun e => ?_)⟩⟩
        · have := A.l0; rw [e, lW] at this; cases this
        · have := A.l1; rw [e, lW] at this; cases this
        · have := A.l2; rw [e, lW] at this; cases this
        · have := A.l3; rw [e, lW] at this; cases this
        · have := A.l4; rw [e, lW] at this; cases this
    exact ⟨⟨r.now.1, g _ _ r.now.2⟩, r.oc, r.k0, r.k1, fun z => ⟨⟨(r.kp z).1.1, g _ _ (r.kp z).1.2⟩, (r.kp z).2⟩, r.pa.C g, r.po, r.t1, r.t2, r.t3, r.tb, r.js⟩
theorem zHE.exc {l : zLay} {m : Int} {s' C' : zMem} (h : zHE lay x y nx C σ P' l m s' C') (hk : kk ≠ 0) : zHQ lay x y nx W C σ kk v P' (.inl (some (zI kk))) l (tC x s' C') m :=
  ⟨s', C', rfl, rfl, fun z => absurd z hk, h.1, h.2.1, h.2.2.1, fun o o0 o1 _ => h.2.2.2.1 o o0 o1, h.2.2.2.2⟩
theorem z_hcall (hd : zD k pc (.invokevirtual idx) 3 pc') (hf : zVc own idx k' n ci) (hw : own = k.1.cls) (hM : zMM G D' k' (zP (x + 0) :: av) lay (tC x s C) nx b (zEg lay x y nx C σ kk v E1 E2 P')) (hD : D' + 1 ≤ D) (ho : lay (x + 0) = (ci + 1, nn)) (hn : av.length = n) (hrest : st.length ≤ 4)
    (c0 : kk = 0 → ∀ l m s' C', zHE lay x y nx C σ P' l m s' C' → zW G k D Q pc' L (zI v :: st) l (tC x s' C') m (0, 0))
    (c1 : kk = 1 → ∃ hpc, zCat k pc E1 hpc ∧ ∀ a l m s' C', zHE lay x y nx C σ P' l m s' C' → zW G k D Q hpc L [zX a] l (tC x s' C') m (0, 0))
    (c2 : kk ≠ 0 → kk ≠ 1 → ∃ hpc, zCat k pc E2 hpc ∧ ∀ a l m s' C', zHE lay x y nx C σ P' l m s' C' → zW G k D Q hpc L [zX a] l (tC x s' C') m (0, 0)) : zW G k D Q pc L (av.reverse ++ zP (x + 0) :: st) lay (tC x s C) nx b := by
  subst hw
  obtain ⟨f1, f2, f3, r0, f4, f5⟩ := hf
  have h := z_callVH (b'' := (0, 0)) (Q := Q) (L := L) hd f1 f2 f3 hM hD ho f4 f5 hn hrest
    (fun r l c m q => by
      obtain ⟨s', C', q1, q2, q3, q4, q5⟩ := q
      unfold zKo at q4
      by_cases z : kk = 0
      · rw [if_pos z] at q4
        have e := Sum.inl.inj q4
        subst e
        subst q1
        exact c0 z l m s' C' ⟨q2, q3, q5⟩
      · rw [if_neg z] at q4
        split at q4 <;> cases q4)
    (fun E l c m q => by
      obtain ⟨s', C', q1, q2, q3, q4, q5⟩ := q
      unfold zKo at q4
      subst q1
      by_cases z : kk = 0
      · rw [if_pos z] at q4; cases q4
      · rw [if_neg z] at q4
        by_cases z1 : kk = 1
        · rw [if_pos z1] at q4
          have e := Sum.inr.inj q4
          subst e
          obtain ⟨hpc, g1, g2⟩ := c1 z1
          exact ⟨hpc, g1, fun a => g2 a l m s' C' ⟨q2, q3, q5⟩⟩
        · rw [if_neg z1] at q4
          have e := Sum.inr.inj q4
          subst e
          obtain ⟨hpc, g1, g2⟩ := c2 z z1
          exact ⟨hpc, g1, fun a => g2 a l m s' C' ⟨q2, q3, q5⟩⟩)
  exact h
end ZHELP
theorem ztab {h : List (Nat × Nat × Nat × Nat)} : tableOf h = tableOf h := rfl
theorem h_coast {G : zG} {lay : zLay} {C s σ : zMem} {x y nx W kk v : Int} {b : Nat × Nat} {P' : zMem → Prop} (hT : TopL lay x) (hd : x + 313 ≤ y) (hW : lay W = (101, 1)) (hWx : y + 12 ≤ W ∧ W < nx) (h012 : kk = 0 ∨ kk = 1 ∨ (kk = 2 ∧ zEa ≠ zEu)) (hC : zMM G 12 KX11_coast (zP (x + 0) :: []) lay (tC x s C) nx b (zEg lay x y nx C σ kk v zEa zEu P')) : zMM G 13 KL_coast [zP (x + 0), zP W] lay (tC x s C) nx b (zHQ lay x y nx W C σ kk (zwr v) P') := by
  refine z_metHs (L := [zP (x + 0), zP W, zU]) gL_coast.1 (fun z => by cases z) rfl (Nat.le_of_ble_eq_true rfl) rfl ?_
  have hx := hT.1
  have hne : x + 0 ≠ -1 := by omega
  have hWne : W ≠ -1 := by omega
  have hox : lay (x + 0) = (11 + 1, 15) := hT.2 0 (Or.inl ⟨by decide, by decide⟩)
  have hWo : ∀ u : Unit, ¬ inT (W - x) := fun _ => by unfold inT; omega
  refine z_al1 eL_coast_0 hWne ?_
  refine z_iconst eL_coast_1 ?_
  refine z_al0 eL_coast_2 hne ?_
  refine z_hcall (av := []) (st := [zI 0, zP W]) (L := [zP (x + 0), zP W, zU]) eL_coast_3 vL_7 rfl hC (Nat.le_of_ble_eq_true rfl) hox rfl (Nat.le_of_ble_eq_true rfl) (fun hk l m s' C' hE => ?_) (fun hk => ?_) (fun hk hk1 => ?_)
  · refine zW.wr ?_
    refine z_i2l eL_coast_6 (zwr_in v) ?_
    have lW : l W = (101, 1) := by rw [hE.1 W hWx.2]; exact hW
    refine z_lastore eL_coast_7 lW ⟨by decide, by decide⟩ ?_
    rw [tC_out_set (hWo ())]
    refine z_goto (tgt := 17) eL_coast_8 rfl ?_
    refine z_iconst eL_coast_17 ?_
    refine z_ireturn eL_coast_18 rfl ?_
    subst hk
    exact hE.out hW hWx _ (fun _ => rfl)
  · refine ⟨11, ⟨(tableOf KL_coast.2.2.2.2).take 0, (tableOf KL_coast.2.2.2.2)[0]'(by decide), (tableOf KL_coast.2.2.2.2).drop 1, rfl, by decide, by decide, cL_13, by decide +kernel, rfl, fun z hz => by cases hz⟩, fun a l m s' C' hE => ?_⟩
    refine z_ax2 eL_coast_11 (Nat.ne_of_beq_eq_false rfl) ?_
    refine z_iconst eL_coast_12 ?_
    refine z_ireturn eL_coast_13 rfl ?_
    subst hk
    exact hE.exc (by decide)
  · have hk2 : kk = 2 := by rcases h012 with z | z | z; exact absurd z hk; exact absurd z hk1; exact z.1
    refine ⟨14, ⟨(tableOf KL_coast.2.2.2.2).take 1, (tableOf KL_coast.2.2.2.2)[1]'(by decide), (tableOf KL_coast.2.2.2.2).drop 2, rfl, by decide, by decide, cL_15, by decide +kernel, rfl, fun z hz => by rcases List.mem_cons.mp hz with e | e; subst e; exact Or.inr ⟨by decide, "java/lang/IllegalArgumentException", cL_13, by decide +kernel⟩; cases e⟩, fun a l m s' C' hE => ?_⟩
    refine z_ax2 eL_coast_14 (Nat.ne_of_beq_eq_false rfl) ?_
    refine z_iconst eL_coast_15 ?_
    refine z_ireturn eL_coast_16 rfl ?_
    rw [← hk2]
    exact hE.exc hk
theorem h_law {G : zG} {lay : zLay} {C s σ : zMem} {x y nx W kk v : Int} {b : Nat × Nat} {P' : zMem → Prop} (hT : TopL lay x) (hd : x + 313 ≤ y) (hW : lay W = (101, 1)) (hWx : y + 12 ≤ W ∧ W < nx) (h012 : kk = 0 ∨ kk = 1 ∨ (kk = 2 ∧ zEa ≠ zEa)) (hC : zMM G 62 KX11_law (zP (x + 0) :: []) lay (tC x s C) nx b (zEg lay x y nx C σ kk v zEa zEa P')) : zMM G 63 KL_law [zP (x + 0), zP W] lay (tC x s C) nx b (zHQ lay x y nx W C σ kk (zwr v) P') := by
  refine z_metHs (L := [zP (x + 0), zP W, zU]) gL_law.1 (fun z => by cases z) rfl (Nat.le_of_ble_eq_true rfl) rfl ?_
  have hx := hT.1
  have hne : x + 0 ≠ -1 := by omega
  have hWne : W ≠ -1 := by omega
  have hox : lay (x + 0) = (11 + 1, 15) := hT.2 0 (Or.inl ⟨by decide, by decide⟩)
  have hWo : ∀ u : Unit, ¬ inT (W - x) := fun _ => by unfold inT; omega
  refine z_al1 eL_law_0 hWne ?_
  refine z_iconst eL_law_1 ?_
  refine z_al0 eL_law_2 hne ?_
  refine z_hcall (av := []) (st := [zI 0, zP W]) (L := [zP (x + 0), zP W, zU]) eL_law_3 vL_17 rfl hC (Nat.le_of_ble_eq_true rfl) hox rfl (Nat.le_of_ble_eq_true rfl) (fun hk l m s' C' hE => ?_) (fun hk => ?_) (fun hk hk1 => ?_)
  · refine zW.wr ?_
    refine z_i2l eL_law_6 (zwr_in v) ?_
    have lW : l W = (101, 1) := by rw [hE.1 W hWx.2]; exact hW
    refine z_lastore eL_law_7 lW ⟨by decide, by decide⟩ ?_
    rw [tC_out_set (hWo ())]
    refine z_goto (tgt := 14) eL_law_8 rfl ?_
    refine z_iconst eL_law_14 ?_
    refine z_ireturn eL_law_15 rfl ?_
    subst hk
    exact hE.out hW hWx _ (fun _ => rfl)
  · refine ⟨11, ⟨(tableOf KL_law.2.2.2.2).take 0, (tableOf KL_law.2.2.2.2)[0]'(by decide), (tableOf KL_law.2.2.2.2).drop 1, rfl, by decide, by decide, cL_13, by decide +kernel, rfl, fun z hz => by cases hz⟩, fun a l m s' C' hE => ?_⟩
    refine z_ax2 eL_law_11 (Nat.ne_of_beq_eq_false rfl) ?_
    refine z_iconst eL_law_12 ?_
    refine z_ireturn eL_law_13 rfl ?_
    subst hk
    exact hE.exc (by decide)
  · exfalso
    rcases h012 with z | z | z
    · exact hk z
    · exact hk1 z
    · exact z.2 rfl
theorem h_member {G : zG} {lay : zLay} {C s σ : zMem} {x y nx W kk v : Int} {b : Nat × Nat} {P' : zMem → Prop} {a0 a1 : Int} (hT : TopL lay x) (hd : x + 313 ≤ y) (hW : lay W = (101, 1)) (hWx : y + 12 ≤ W ∧ W < nx) (h012 : kk = 0 ∨ kk = 1 ∨ (kk = 2 ∧ zEb ≠ zEn)) (hC : zMM G 8 KX11_member (zP (x + 0) :: [zI a0, zI a1]) lay (tC x s C) nx b (zEg lay x y nx C σ kk v zEb zEn P')) : zMM G 9 KL_member [zP (x + 0), zI a0, zI a1, zP W] lay (tC x s C) nx b (zHQ lay x y nx W C σ kk (zwr v) P') := by
  refine z_metHs (L := [zP (x + 0), zI a0, zI a1, zP W, zU]) gL_member.1 (fun z => by cases z) rfl (Nat.le_of_ble_eq_true rfl) rfl ?_
  have hx := hT.1
  have hne : x + 0 ≠ -1 := by omega
  have hWne : W ≠ -1 := by omega
  have hox : lay (x + 0) = (11 + 1, 15) := hT.2 0 (Or.inl ⟨by decide, by decide⟩)
  have hWo : ∀ u : Unit, ¬ inT (W - x) := fun _ => by unfold inT; omega
  refine z_al3 eL_member_0 hWne ?_
  refine z_iconst eL_member_1 ?_
  refine z_al0 eL_member_2 hne ?_
  refine z_il1 eL_member_3 ?_
  refine z_il2 eL_member_4 ?_
  refine z_hcall (av := [zI a0, zI a1]) (st := [zI 0, zP W]) (L := [zP (x + 0), zI a0, zI a1, zP W, zU]) eL_member_5 vL_20 rfl hC (Nat.le_of_ble_eq_true rfl) hox rfl (Nat.le_of_ble_eq_true rfl) (fun hk l m s' C' hE => ?_) (fun hk => ?_) (fun hk hk1 => ?_)
  · refine zW.wr ?_
    refine z_i2l eL_member_8 (zwr_in v) ?_
    have lW : l W = (101, 1) := by rw [hE.1 W hWx.2]; exact hW
    refine z_lastore eL_member_9 lW ⟨by decide, by decide⟩ ?_
    rw [tC_out_set (hWo ())]
    refine z_goto (tgt := 21) eL_member_10 rfl ?_
    refine z_iconst eL_member_21 ?_
    refine z_ireturn eL_member_22 rfl ?_
    subst hk
    exact hE.out hW hWx _ (fun _ => rfl)
  · refine ⟨13, ⟨(tableOf KL_member.2.2.2.2).take 0, (tableOf KL_member.2.2.2.2)[0]'(by decide), (tableOf KL_member.2.2.2.2).drop 1, rfl, by decide, by decide, cL_24, by decide +kernel, rfl, fun z hz => by cases hz⟩, fun a l m s' C' hE => ?_⟩
    refine z_ax4 eL_member_13 (Nat.ne_of_beq_eq_false rfl) ?_
    refine z_iconst eL_member_15 ?_
    refine z_ireturn eL_member_16 rfl ?_
    subst hk
    exact hE.exc (by decide)
  · have hk2 : kk = 2 := by rcases h012 with z | z | z; exact absurd z hk; exact absurd z hk1; exact z.1
    refine ⟨17, ⟨(tableOf KL_member.2.2.2.2).take 1, (tableOf KL_member.2.2.2.2)[1]'(by decide), (tableOf KL_member.2.2.2.2).drop 2, rfl, by decide, by decide, cL_26, by decide +kernel, rfl, fun z hz => by rcases List.mem_cons.mp hz with e | e; subst e; exact Or.inr ⟨by decide, "java/lang/IndexOutOfBoundsException", cL_24, by decide +kernel⟩; cases e⟩, fun a l m s' C' hE => ?_⟩
    refine z_ax4 eL_member_17 (Nat.ne_of_beq_eq_false rfl) ?_
    refine z_iconst eL_member_19 ?_
    refine z_ireturn eL_member_20 rfl ?_
    rw [← hk2]
    exact hE.exc hk
theorem h_motion {G : zG} {lay : zLay} {C s σ : zMem} {x y nx W kk v : Int} {b : Nat × Nat} {P' : zMem → Prop} {a0 a1 : Int} (hT : TopL lay x) (hd : x + 313 ≤ y) (hW : lay W = (101, 1)) (hWx : y + 12 ≤ W ∧ W < nx) (h012 : kk = 0 ∨ kk = 1 ∨ (kk = 2 ∧ zEb ≠ zEn)) (hC : zMM G 8 KX11_motion (zP (x + 0) :: [zI a0, zI a1]) lay (tC x s C) nx b (zEg lay x y nx C σ kk v zEb zEn P')) : zMM G 9 KL_motion [zP (x + 0), zI a0, zI a1, zP W] lay (tC x s C) nx b (zHQ lay x y nx W C σ kk (zwr v) P') := by
  refine z_metHs (L := [zP (x + 0), zI a0, zI a1, zP W, zU]) gL_motion.1 (fun z => by cases z) rfl (Nat.le_of_ble_eq_true rfl) rfl ?_
  have hx := hT.1
  have hne : x + 0 ≠ -1 := by omega
  have hWne : W ≠ -1 := by omega
  have hox : lay (x + 0) = (11 + 1, 15) := hT.2 0 (Or.inl ⟨by decide, by decide⟩)
  have hWo : ∀ u : Unit, ¬ inT (W - x) := fun _ => by unfold inT; omega
  refine z_al3 eL_motion_0 hWne ?_
  refine z_iconst eL_motion_1 ?_
  refine z_al0 eL_motion_2 hne ?_
  refine z_il1 eL_motion_3 ?_
  refine z_il2 eL_motion_4 ?_
  refine z_hcall (av := [zI a0, zI a1]) (st := [zI 0, zP W]) (L := [zP (x + 0), zI a0, zI a1, zP W, zU]) eL_motion_5 vL_28 rfl hC (Nat.le_of_ble_eq_true rfl) hox rfl (Nat.le_of_ble_eq_true rfl) (fun hk l m s' C' hE => ?_) (fun hk => ?_) (fun hk hk1 => ?_)
  · refine zW.wr ?_
    refine z_i2l eL_motion_8 (zwr_in v) ?_
    have lW : l W = (101, 1) := by rw [hE.1 W hWx.2]; exact hW
    refine z_lastore eL_motion_9 lW ⟨by decide, by decide⟩ ?_
    rw [tC_out_set (hWo ())]
    refine z_goto (tgt := 21) eL_motion_10 rfl ?_
    refine z_iconst eL_motion_21 ?_
    refine z_ireturn eL_motion_22 rfl ?_
    subst hk
    exact hE.out hW hWx _ (fun _ => rfl)
  · refine ⟨13, ⟨(tableOf KL_motion.2.2.2.2).take 0, (tableOf KL_motion.2.2.2.2)[0]'(by decide), (tableOf KL_motion.2.2.2.2).drop 1, rfl, by decide, by decide, cL_24, by decide +kernel, rfl, fun z hz => by cases hz⟩, fun a l m s' C' hE => ?_⟩
    refine z_ax4 eL_motion_13 (Nat.ne_of_beq_eq_false rfl) ?_
    refine z_iconst eL_motion_15 ?_
    refine z_ireturn eL_motion_16 rfl ?_
    subst hk
    exact hE.exc (by decide)
  · have hk2 : kk = 2 := by rcases h012 with z | z | z; exact absurd z hk; exact absurd z hk1; exact z.1
    refine ⟨17, ⟨(tableOf KL_motion.2.2.2.2).take 1, (tableOf KL_motion.2.2.2.2)[1]'(by decide), (tableOf KL_motion.2.2.2.2).drop 2, rfl, by decide, by decide, cL_26, by decide +kernel, rfl, fun z hz => by rcases List.mem_cons.mp hz with e | e; subst e; exact Or.inr ⟨by decide, "java/lang/IndexOutOfBoundsException", cL_24, by decide +kernel⟩; cases e⟩, fun a l m s' C' hE => ?_⟩
    refine z_ax4 eL_motion_17 (Nat.ne_of_beq_eq_false rfl) ?_
    refine z_iconst eL_motion_19 ?_
    refine z_ireturn eL_motion_20 rfl ?_
    rw [← hk2]
    exact hE.exc hk
theorem h_follows {G : zG} {lay : zLay} {C s σ : zMem} {x y nx W kk v : Int} {b : Nat × Nat} {P' : zMem → Prop} {a0 a1 : Int} (hT : TopL lay x) (hd : x + 313 ≤ y) (hW : lay W = (101, 1)) (hWx : y + 12 ≤ W ∧ W < nx) (h012 : kk = 0 ∨ kk = 1 ∨ (kk = 2 ∧ zEb ≠ zEb)) (hC : zMM G 8 KX11_follows (zP (x + 0) :: [zI a0, zI a1]) lay (tC x s C) nx b (zEg lay x y nx C σ kk v zEb zEb P')) : zMM G 9 KL_follows [zP (x + 0), zI a0, zI a1, zP W] lay (tC x s C) nx b (zHQ lay x y nx W C σ kk (zwr v) P') := by
  refine z_metHs (L := [zP (x + 0), zI a0, zI a1, zP W, zU]) gL_follows.1 (fun z => by cases z) rfl (Nat.le_of_ble_eq_true rfl) rfl ?_
  have hx := hT.1
  have hne : x + 0 ≠ -1 := by omega
  have hWne : W ≠ -1 := by omega
  have hox : lay (x + 0) = (11 + 1, 15) := hT.2 0 (Or.inl ⟨by decide, by decide⟩)
  have hWo : ∀ u : Unit, ¬ inT (W - x) := fun _ => by unfold inT; omega
  refine z_al3 eL_follows_0 hWne ?_
  refine z_iconst eL_follows_1 ?_
  refine z_al0 eL_follows_2 hne ?_
  refine z_il1 eL_follows_3 ?_
  refine z_il2 eL_follows_4 ?_
  refine z_hcall (av := [zI a0, zI a1]) (st := [zI 0, zP W]) (L := [zP (x + 0), zI a0, zI a1, zP W, zU]) eL_follows_5 vL_31 rfl hC (Nat.le_of_ble_eq_true rfl) hox rfl (Nat.le_of_ble_eq_true rfl) (fun hk l m s' C' hE => ?_) (fun hk => ?_) (fun hk hk1 => ?_)
  · refine zW.wr ?_
    refine z_i2l eL_follows_8 (zwr_in v) ?_
    have lW : l W = (101, 1) := by rw [hE.1 W hWx.2]; exact hW
    refine z_lastore eL_follows_9 lW ⟨by decide, by decide⟩ ?_
    rw [tC_out_set (hWo ())]
    refine z_goto (tgt := 17) eL_follows_10 rfl ?_
    refine z_iconst eL_follows_17 ?_
    refine z_ireturn eL_follows_18 rfl ?_
    subst hk
    exact hE.out hW hWx _ (fun _ => rfl)
  · refine ⟨13, ⟨(tableOf KL_follows.2.2.2.2).take 0, (tableOf KL_follows.2.2.2.2)[0]'(by decide), (tableOf KL_follows.2.2.2.2).drop 1, rfl, by decide, by decide, cL_24, by decide +kernel, rfl, fun z hz => by cases hz⟩, fun a l m s' C' hE => ?_⟩
    refine z_ax4 eL_follows_13 (Nat.ne_of_beq_eq_false rfl) ?_
    refine z_iconst eL_follows_15 ?_
    refine z_ireturn eL_follows_16 rfl ?_
    subst hk
    exact hE.exc (by decide)
  · exfalso
    rcases h012 with z | z | z
    · exact hk z
    · exact hk1 z
    · exact z.2 rfl
theorem h_exposed {G : zG} {lay : zLay} {C s σ : zMem} {x y nx W kk v : Int} {b : Nat × Nat} {P' : zMem → Prop} {a0 : Int} (hT : TopL lay x) (hd : x + 313 ≤ y) (hW : lay W = (101, 1)) (hWx : y + 12 ≤ W ∧ W < nx) (h012 : kk = 0 ∨ kk = 1 ∨ (kk = 2 ∧ zEb ≠ zEb)) (hC : zMM G 8 KX11_exposed (zP (x + 0) :: [zI a0]) lay (tC x s C) nx b (zEg lay x y nx C σ kk v zEb zEb P')) : zMM G 9 KL_exposed [zP (x + 0), zI a0, zP W] lay (tC x s C) nx b (zHQ lay x y nx W C σ kk (zwr v) P') := by
  refine z_metHs (L := [zP (x + 0), zI a0, zP W, zU]) gL_exposed.1 (fun z => by cases z) rfl (Nat.le_of_ble_eq_true rfl) rfl ?_
  have hx := hT.1
  have hne : x + 0 ≠ -1 := by omega
  have hWne : W ≠ -1 := by omega
  have hox : lay (x + 0) = (11 + 1, 15) := hT.2 0 (Or.inl ⟨by decide, by decide⟩)
  have hWo : ∀ u : Unit, ¬ inT (W - x) := fun _ => by unfold inT; omega
  refine z_al2 eL_exposed_0 hWne ?_
  refine z_iconst eL_exposed_1 ?_
  refine z_al0 eL_exposed_2 hne ?_
  refine z_il1 eL_exposed_3 ?_
  refine z_hcall (av := [zI a0]) (st := [zI 0, zP W]) (L := [zP (x + 0), zI a0, zP W, zU]) eL_exposed_4 vL_34 rfl hC (Nat.le_of_ble_eq_true rfl) hox rfl (Nat.le_of_ble_eq_true rfl) (fun hk l m s' C' hE => ?_) (fun hk => ?_) (fun hk hk1 => ?_)
  · refine zW.wr ?_
    refine z_i2l eL_exposed_7 (zwr_in v) ?_
    have lW : l W = (101, 1) := by rw [hE.1 W hWx.2]; exact hW
    refine z_lastore eL_exposed_8 lW ⟨by decide, by decide⟩ ?_
    rw [tC_out_set (hWo ())]
    refine z_goto (tgt := 15) eL_exposed_9 rfl ?_
    refine z_iconst eL_exposed_15 ?_
    refine z_ireturn eL_exposed_16 rfl ?_
    subst hk
    exact hE.out hW hWx _ (fun _ => rfl)
  · refine ⟨12, ⟨(tableOf KL_exposed.2.2.2.2).take 0, (tableOf KL_exposed.2.2.2.2)[0]'(by decide), (tableOf KL_exposed.2.2.2.2).drop 1, rfl, by decide, by decide, cL_24, by decide +kernel, rfl, fun z hz => by cases hz⟩, fun a l m s' C' hE => ?_⟩
    refine z_ax3 eL_exposed_12 (Nat.ne_of_beq_eq_false rfl) ?_
    refine z_iconst eL_exposed_13 ?_
    refine z_ireturn eL_exposed_14 rfl ?_
    subst hk
    exact hE.exc (by decide)
  · exfalso
    rcases h012 with z | z | z
    · exact hk z
    · exact hk1 z
    · exact z.2 rfl
theorem h_paper {G : zG} {lay : zLay} {C s σ : zMem} {x y nx W kk v : Int} {b : Nat × Nat} {P' : zMem → Prop} {a0 : Int} (hT : TopL lay x) (hd : x + 313 ≤ y) (hW : lay W = (101, 1)) (hWx : y + 12 ≤ W ∧ W < nx) (h012 : kk = 0 ∨ kk = 1 ∨ (kk = 2 ∧ zEb ≠ zEb)) (hC : zMM G 8 KX11_paper (zP (x + 0) :: [zI a0]) lay (tC x s C) nx b (zEg lay x y nx C σ kk v zEb zEb P')) : zMM G 9 KL_paper [zP (x + 0), zI a0, zP W] lay (tC x s C) nx b (zHQ lay x y nx W C σ kk (zwr v) P') := by
  refine z_metHs (L := [zP (x + 0), zI a0, zP W, zU]) gL_paper.1 (fun z => by cases z) rfl (Nat.le_of_ble_eq_true rfl) rfl ?_
  have hx := hT.1
  have hne : x + 0 ≠ -1 := by omega
  have hWne : W ≠ -1 := by omega
  have hox : lay (x + 0) = (11 + 1, 15) := hT.2 0 (Or.inl ⟨by decide, by decide⟩)
  have hWo : ∀ u : Unit, ¬ inT (W - x) := fun _ => by unfold inT; omega
  refine z_al2 eL_paper_0 hWne ?_
  refine z_iconst eL_paper_1 ?_
  refine z_al0 eL_paper_2 hne ?_
  refine z_il1 eL_paper_3 ?_
  refine z_hcall (av := [zI a0]) (st := [zI 0, zP W]) (L := [zP (x + 0), zI a0, zP W, zU]) eL_paper_4 vL_38 rfl hC (Nat.le_of_ble_eq_true rfl) hox rfl (Nat.le_of_ble_eq_true rfl) (fun hk l m s' C' hE => ?_) (fun hk => ?_) (fun hk hk1 => ?_)
  · refine zW.wr ?_
    refine z_i2l eL_paper_7 (zwr_in v) ?_
    have lW : l W = (101, 1) := by rw [hE.1 W hWx.2]; exact hW
    refine z_lastore eL_paper_8 lW ⟨by decide, by decide⟩ ?_
    rw [tC_out_set (hWo ())]
    refine z_goto (tgt := 15) eL_paper_9 rfl ?_
    refine z_iconst eL_paper_15 ?_
    refine z_ireturn eL_paper_16 rfl ?_
    subst hk
    exact hE.out hW hWx _ (fun _ => rfl)
  · refine ⟨12, ⟨(tableOf KL_paper.2.2.2.2).take 0, (tableOf KL_paper.2.2.2.2)[0]'(by decide), (tableOf KL_paper.2.2.2.2).drop 1, rfl, by decide, by decide, cL_24, by decide +kernel, rfl, fun z hz => by cases hz⟩, fun a l m s' C' hE => ?_⟩
    refine z_ax3 eL_paper_12 (Nat.ne_of_beq_eq_false rfl) ?_
    refine z_iconst eL_paper_13 ?_
    refine z_ireturn eL_paper_14 rfl ?_
    subst hk
    exact hE.exc (by decide)
  · exfalso
    rcases h012 with z | z | z
    · exact hk z
    · exact hk1 z
    · exact z.2 rfl
theorem h_felt {G : zG} {lay : zLay} {C s σ : zMem} {x y nx W kk v : Int} {b : Nat × Nat} {P' : zMem → Prop} {a0 a1 a2 : Int} (hT : TopL lay x) (hd : x + 313 ≤ y) (hW : lay W = (101, 1)) (hWx : y + 12 ≤ W ∧ W < nx) (h012 : kk = 0 ∨ kk = 1 ∨ (kk = 2 ∧ zEb ≠ zEb)) (hC : zMM G 8 KX11_felt (zP (x + 0) :: [zI a0, zI a1, zI a2]) lay (tC x s C) nx b (zEg lay x y nx C σ kk v zEb zEb P')) : zMM G 9 KL_felt [zP (x + 0), zI a0, zI a1, zI a2, zP W] lay (tC x s C) nx b (zHQ lay x y nx W C σ kk (zwr v) P') := by
  refine z_metHs (L := [zP (x + 0), zI a0, zI a1, zI a2, zP W, zU]) gL_felt.1 (fun z => by cases z) rfl (Nat.le_of_ble_eq_true rfl) rfl ?_
  have hx := hT.1
  have hne : x + 0 ≠ -1 := by omega
  have hWne : W ≠ -1 := by omega
  have hox : lay (x + 0) = (11 + 1, 15) := hT.2 0 (Or.inl ⟨by decide, by decide⟩)
  have hWo : ∀ u : Unit, ¬ inT (W - x) := fun _ => by unfold inT; omega
  refine z_al4 eL_felt_0 hWne ?_
  refine z_iconst eL_felt_2 ?_
  refine z_al0 eL_felt_3 hne ?_
  refine z_il1 eL_felt_4 ?_
  refine z_il2 eL_felt_5 ?_
  refine z_il3 eL_felt_6 ?_
  refine z_hcall (av := [zI a0, zI a1, zI a2]) (st := [zI 0, zP W]) (L := [zP (x + 0), zI a0, zI a1, zI a2, zP W, zU]) eL_felt_7 vL_41 rfl hC (Nat.le_of_ble_eq_true rfl) hox rfl (Nat.le_of_ble_eq_true rfl) (fun hk l m s' C' hE => ?_) (fun hk => ?_) (fun hk hk1 => ?_)
  · refine zW.wr ?_
    refine z_i2l eL_felt_10 (zwr_in v) ?_
    have lW : l W = (101, 1) := by rw [hE.1 W hWx.2]; exact hW
    refine z_lastore eL_felt_11 lW ⟨by decide, by decide⟩ ?_
    rw [tC_out_set (hWo ())]
    refine z_goto (tgt := 19) eL_felt_12 rfl ?_
    refine z_iconst eL_felt_19 ?_
    refine z_ireturn eL_felt_20 rfl ?_
    subst hk
    exact hE.out hW hWx _ (fun _ => rfl)
  · refine ⟨15, ⟨(tableOf KL_felt.2.2.2.2).take 0, (tableOf KL_felt.2.2.2.2)[0]'(by decide), (tableOf KL_felt.2.2.2.2).drop 1, rfl, by decide, by decide, cL_24, by decide +kernel, rfl, fun z hz => by cases hz⟩, fun a l m s' C' hE => ?_⟩
    refine z_ax5 eL_felt_15 (Nat.ne_of_beq_eq_false rfl) ?_
    refine z_iconst eL_felt_17 ?_
    refine z_ireturn eL_felt_18 rfl ?_
    subst hk
    exact hE.exc (by decide)
  · exfalso
    rcases h012 with z | z | z
    · exact hk z
    · exact hk1 z
    · exact z.2 rfl
theorem h_goes {G : zG} {lay : zLay} {C s σ : zMem} {x y nx W kk v : Int} {b : Nat × Nat} {P' : zMem → Prop} {a0 a1 a2 : Int} (hT : TopL lay x) (hd : x + 313 ≤ y) (hW : lay W = (101, 1)) (hWx : y + 12 ≤ W ∧ W < nx) (h012 : kk = 0 ∨ kk = 1 ∨ (kk = 2 ∧ zEb ≠ zEb)) (hC : zMM G 8 KX11_goes (zP (x + 0) :: [zI a0, zI a1, zI a2]) lay (tC x s C) nx b (zEg lay x y nx C σ kk v zEb zEb P')) : zMM G 9 KL_goes [zP (x + 0), zI a0, zI a1, zI a2, zP W] lay (tC x s C) nx b (zHQ lay x y nx W C σ kk (zwr v) P') := by
  refine z_metHs (L := [zP (x + 0), zI a0, zI a1, zI a2, zP W, zU]) gL_goes.1 (fun z => by cases z) rfl (Nat.le_of_ble_eq_true rfl) rfl ?_
  have hx := hT.1
  have hne : x + 0 ≠ -1 := by omega
  have hWne : W ≠ -1 := by omega
  have hox : lay (x + 0) = (11 + 1, 15) := hT.2 0 (Or.inl ⟨by decide, by decide⟩)
  have hWo : ∀ u : Unit, ¬ inT (W - x) := fun _ => by unfold inT; omega
  refine z_al4 eL_goes_0 hWne ?_
  refine z_iconst eL_goes_2 ?_
  refine z_al0 eL_goes_3 hne ?_
  refine z_il1 eL_goes_4 ?_
  refine z_il2 eL_goes_5 ?_
  refine z_il3 eL_goes_6 ?_
  refine z_hcall (av := [zI a0, zI a1, zI a2]) (st := [zI 0, zP W]) (L := [zP (x + 0), zI a0, zI a1, zI a2, zP W, zU]) eL_goes_7 vL_45 rfl hC (Nat.le_of_ble_eq_true rfl) hox rfl (Nat.le_of_ble_eq_true rfl) (fun hk l m s' C' hE => ?_) (fun hk => ?_) (fun hk hk1 => ?_)
  · refine zW.wr ?_
    refine z_i2l eL_goes_10 (zwr_in v) ?_
    have lW : l W = (101, 1) := by rw [hE.1 W hWx.2]; exact hW
    refine z_lastore eL_goes_11 lW ⟨by decide, by decide⟩ ?_
    rw [tC_out_set (hWo ())]
    refine z_goto (tgt := 19) eL_goes_12 rfl ?_
    refine z_iconst eL_goes_19 ?_
    refine z_ireturn eL_goes_20 rfl ?_
    subst hk
    exact hE.out hW hWx _ (fun _ => rfl)
  · refine ⟨15, ⟨(tableOf KL_goes.2.2.2.2).take 0, (tableOf KL_goes.2.2.2.2)[0]'(by decide), (tableOf KL_goes.2.2.2.2).drop 1, rfl, by decide, by decide, cL_24, by decide +kernel, rfl, fun z hz => by cases hz⟩, fun a l m s' C' hE => ?_⟩
    refine z_ax5 eL_goes_15 (Nat.ne_of_beq_eq_false rfl) ?_
    refine z_iconst eL_goes_17 ?_
    refine z_ireturn eL_goes_18 rfl ?_
    subst hk
    exact hE.exc (by decide)
  · exfalso
    rcases h012 with z | z | z
    · exact hk z
    · exact hk1 z
    · exact z.2 rfl
theorem h_hours {G : zG} {lay : zLay} {C s σ : zMem} {x y nx W kk v : Int} {b : Nat × Nat} {P' : zMem → Prop} {a0 : Int} (hT : TopL lay x) (hd : x + 313 ≤ y) (hW : lay W = (101, 1)) (hWx : y + 12 ≤ W ∧ W < nx) (h012 : kk = 0 ∨ kk = 1 ∨ (kk = 2 ∧ zEa ≠ zEa)) (hC : zMM G 8 KX11_hours (zP (x + 0) :: [zI a0]) lay (tC x s C) nx b (zEg lay x y nx C σ kk v zEa zEa P')) : zMM G 9 KL_hours [zP (x + 0), zI a0, zP W] lay (tC x s C) nx b (zHQ lay x y nx W C σ kk (zwr v) P') := by
  refine z_metHs (L := [zP (x + 0), zI a0, zP W, zU]) gL_hours.1 (fun z => by cases z) rfl (Nat.le_of_ble_eq_true rfl) rfl ?_
  have hx := hT.1
  have hne : x + 0 ≠ -1 := by omega
  have hWne : W ≠ -1 := by omega
  have hox : lay (x + 0) = (11 + 1, 15) := hT.2 0 (Or.inl ⟨by decide, by decide⟩)
  have hWo : ∀ u : Unit, ¬ inT (W - x) := fun _ => by unfold inT; omega
  refine z_al2 eL_hours_0 hWne ?_
  refine z_iconst eL_hours_1 ?_
  refine z_al0 eL_hours_2 hne ?_
  refine z_il1 eL_hours_3 ?_
  refine z_hcall (av := [zI a0]) (st := [zI 0, zP W]) (L := [zP (x + 0), zI a0, zP W, zU]) eL_hours_4 vL_48 rfl hC (Nat.le_of_ble_eq_true rfl) hox rfl (Nat.le_of_ble_eq_true rfl) (fun hk l m s' C' hE => ?_) (fun hk => ?_) (fun hk hk1 => ?_)
  · refine zW.wr ?_
    refine z_i2l eL_hours_7 (zwr_in v) ?_
    have lW : l W = (101, 1) := by rw [hE.1 W hWx.2]; exact hW
    refine z_lastore eL_hours_8 lW ⟨by decide, by decide⟩ ?_
    rw [tC_out_set (hWo ())]
    refine z_goto (tgt := 15) eL_hours_9 rfl ?_
    refine z_iconst eL_hours_15 ?_
    refine z_ireturn eL_hours_16 rfl ?_
    subst hk
    exact hE.out hW hWx _ (fun _ => rfl)
  · refine ⟨12, ⟨(tableOf KL_hours.2.2.2.2).take 0, (tableOf KL_hours.2.2.2.2)[0]'(by decide), (tableOf KL_hours.2.2.2.2).drop 1, rfl, by decide, by decide, cL_13, by decide +kernel, rfl, fun z hz => by cases hz⟩, fun a l m s' C' hE => ?_⟩
    refine z_ax3 eL_hours_12 (Nat.ne_of_beq_eq_false rfl) ?_
    refine z_iconst eL_hours_13 ?_
    refine z_ireturn eL_hours_14 rfl ?_
    subst hk
    exact hE.exc (by decide)
  · exfalso
    rcases h012 with z | z | z
    · exact hk z
    · exact hk1 z
    · exact z.2 rfl
theorem h_table {G : zG} {lay : zLay} {C s σ : zMem} {x y nx W kk v : Int} {b : Nat × Nat} {P' : zMem → Prop} {a0 a1 : Int} (hT : TopL lay x) (hd : x + 313 ≤ y) (hW : lay W = (101, 1)) (hWx : y + 12 ≤ W ∧ W < nx) (h012 : kk = 0 ∨ kk = 1 ∨ (kk = 2 ∧ zEb ≠ zEs)) (hC : zMM G 8 KX11_table (zP (x + 0) :: [zI a0, zI a1]) lay (tC x s C) nx b (zEg lay x y nx C σ kk v zEb zEs P')) : zMM G 9 KL_table [zP (x + 0), zI a0, zI a1, zP W] lay (tC x s C) nx b (zHQ lay x y nx W C σ kk (zwr v) P') := by
  refine z_metHs (L := [zP (x + 0), zI a0, zI a1, zP W, zU]) gL_table.1 (fun z => by cases z) rfl (Nat.le_of_ble_eq_true rfl) rfl ?_
  have hx := hT.1
  have hne : x + 0 ≠ -1 := by omega
  have hWne : W ≠ -1 := by omega
  have hox : lay (x + 0) = (11 + 1, 15) := hT.2 0 (Or.inl ⟨by decide, by decide⟩)
  have hWo : ∀ u : Unit, ¬ inT (W - x) := fun _ => by unfold inT; omega
  refine z_al3 eL_table_0 hWne ?_
  refine z_iconst eL_table_1 ?_
  refine z_al0 eL_table_2 hne ?_
  refine z_il1 eL_table_3 ?_
  refine z_il2 eL_table_4 ?_
  refine z_hcall (av := [zI a0, zI a1]) (st := [zI 0, zP W]) (L := [zP (x + 0), zI a0, zI a1, zP W, zU]) eL_table_5 vL_51 rfl hC (Nat.le_of_ble_eq_true rfl) hox rfl (Nat.le_of_ble_eq_true rfl) (fun hk l m s' C' hE => ?_) (fun hk => ?_) (fun hk hk1 => ?_)
  · refine zW.wr ?_
    refine z_i2l eL_table_8 (zwr_in v) ?_
    have lW : l W = (101, 1) := by rw [hE.1 W hWx.2]; exact hW
    refine z_lastore eL_table_9 lW ⟨by decide, by decide⟩ ?_
    rw [tC_out_set (hWo ())]
    refine z_goto (tgt := 21) eL_table_10 rfl ?_
    refine z_iconst eL_table_21 ?_
    refine z_ireturn eL_table_22 rfl ?_
    subst hk
    exact hE.out hW hWx _ (fun _ => rfl)
  · refine ⟨13, ⟨(tableOf KL_table.2.2.2.2).take 0, (tableOf KL_table.2.2.2.2)[0]'(by decide), (tableOf KL_table.2.2.2.2).drop 1, rfl, by decide, by decide, cL_24, by decide +kernel, rfl, fun z hz => by cases hz⟩, fun a l m s' C' hE => ?_⟩
    refine z_ax4 eL_table_13 (Nat.ne_of_beq_eq_false rfl) ?_
    refine z_iconst eL_table_15 ?_
    refine z_ireturn eL_table_16 rfl ?_
    subst hk
    exact hE.exc (by decide)
  · have hk2 : kk = 2 := by rcases h012 with z | z | z; exact absurd z hk; exact absurd z hk1; exact z.1
    refine ⟨17, ⟨(tableOf KL_table.2.2.2.2).take 1, (tableOf KL_table.2.2.2.2)[1]'(by decide), (tableOf KL_table.2.2.2.2).drop 2, rfl, by decide, by decide, cL_54, by decide +kernel, rfl, fun z hz => by rcases List.mem_cons.mp hz with e | e; subst e; exact Or.inr ⟨by decide, "java/lang/IndexOutOfBoundsException", cL_24, by decide +kernel⟩; cases e⟩, fun a l m s' C' hE => ?_⟩
    refine z_ax4 eL_table_17 (Nat.ne_of_beq_eq_false rfl) ?_
    refine z_iconst eL_table_19 ?_
    refine z_ireturn eL_table_20 rfl ?_
    rw [← hk2]
    exact hE.exc hk
theorem h_clear {G : zG} {lay : zLay} {C s σ : zMem} {x y nx W kk v : Int} {b : Nat × Nat} {P' : zMem → Prop} {a0 : Int} (hT : TopL lay x) (hd : x + 313 ≤ y) (hW : lay W = (101, 1)) (hWx : y + 12 ≤ W ∧ W < nx) (h012 : kk = 0 ∨ kk = 1 ∨ (kk = 2 ∧ zEb ≠ zEs)) (hC : zMM G 8 KX11_clear (zP (x + 0) :: [zI a0]) lay (tC x s C) nx b (zEg lay x y nx C σ kk v zEb zEs P')) : zMM G 9 KL_clear [zP (x + 0), zI a0, zP W] lay (tC x s C) nx b (zHQ lay x y nx W C σ kk (zwr v) P') := by
  refine z_metHs (L := [zP (x + 0), zI a0, zP W, zU]) gL_clear.1 (fun z => by cases z) rfl (Nat.le_of_ble_eq_true rfl) rfl ?_
  have hx := hT.1
  have hne : x + 0 ≠ -1 := by omega
  have hWne : W ≠ -1 := by omega
  have hox : lay (x + 0) = (11 + 1, 15) := hT.2 0 (Or.inl ⟨by decide, by decide⟩)
  have hWo : ∀ u : Unit, ¬ inT (W - x) := fun _ => by unfold inT; omega
  refine z_al2 eL_clear_0 hWne ?_
  refine z_iconst eL_clear_1 ?_
  refine z_al0 eL_clear_2 hne ?_
  refine z_il1 eL_clear_3 ?_
  refine z_hcall (av := [zI a0]) (st := [zI 0, zP W]) (L := [zP (x + 0), zI a0, zP W, zU]) eL_clear_4 vL_56 rfl hC (Nat.le_of_ble_eq_true rfl) hox rfl (Nat.le_of_ble_eq_true rfl) (fun hk l m s' C' hE => ?_) (fun hk => ?_) (fun hk hk1 => ?_)
  · refine zW.wr ?_
    refine z_i2l eL_clear_7 (zwr_in v) ?_
    have lW : l W = (101, 1) := by rw [hE.1 W hWx.2]; exact hW
    refine z_lastore eL_clear_8 lW ⟨by decide, by decide⟩ ?_
    rw [tC_out_set (hWo ())]
    refine z_goto (tgt := 18) eL_clear_9 rfl ?_
    refine z_iconst eL_clear_18 ?_
    refine z_ireturn eL_clear_19 rfl ?_
    subst hk
    exact hE.out hW hWx _ (fun _ => rfl)
  · refine ⟨12, ⟨(tableOf KL_clear.2.2.2.2).take 0, (tableOf KL_clear.2.2.2.2)[0]'(by decide), (tableOf KL_clear.2.2.2.2).drop 1, rfl, by decide, by decide, cL_24, by decide +kernel, rfl, fun z hz => by cases hz⟩, fun a l m s' C' hE => ?_⟩
    refine z_ax3 eL_clear_12 (Nat.ne_of_beq_eq_false rfl) ?_
    refine z_iconst eL_clear_13 ?_
    refine z_ireturn eL_clear_14 rfl ?_
    subst hk
    exact hE.exc (by decide)
  · have hk2 : kk = 2 := by rcases h012 with z | z | z; exact absurd z hk; exact absurd z hk1; exact z.1
    refine ⟨15, ⟨(tableOf KL_clear.2.2.2.2).take 1, (tableOf KL_clear.2.2.2.2)[1]'(by decide), (tableOf KL_clear.2.2.2.2).drop 2, rfl, by decide, by decide, cL_54, by decide +kernel, rfl, fun z hz => by rcases List.mem_cons.mp hz with e | e; subst e; exact Or.inr ⟨by decide, "java/lang/IndexOutOfBoundsException", cL_24, by decide +kernel⟩; cases e⟩, fun a l m s' C' hE => ?_⟩
    refine z_ax3 eL_clear_15 (Nat.ne_of_beq_eq_false rfl) ?_
    refine z_iconst eL_clear_16 ?_
    refine z_ireturn eL_clear_17 rfl ?_
    rw [← hk2]
    exact hE.exc hk
theorem h_hat {G : zG} {lay : zLay} {C s σ : zMem} {x y nx W kk v : Int} {b : Nat × Nat} {P' : zMem → Prop} {a0 a1 : Int} (hT : TopL lay x) (hd : x + 313 ≤ y) (hW : lay W = (101, 1)) (hWx : y + 12 ≤ W ∧ W < nx) (h012 : kk = 0 ∨ kk = 1 ∨ (kk = 2 ∧ zEb ≠ zEb)) (hv : kk = 0 → v = 0 ∨ v = 1) (hC : zMM G 8 KX11_hat (zP (x + 0) :: [zI a0, zI a1]) lay (tC x s C) nx b (zEg lay x y nx C σ kk v zEb zEb P')) : zMM G 9 KL_hat [zP (x + 0), zI a0, zI a1, zP W] lay (tC x s C) nx b (zHQ lay x y nx W C σ kk (if v = 0 then 0 else 1) P') := by
  refine z_metHs (L := [zP (x + 0), zI a0, zI a1, zP W, zU]) gL_hat.1 (fun z => by cases z) rfl (Nat.le_of_ble_eq_true rfl) rfl ?_
  have hx := hT.1
  have hne : x + 0 ≠ -1 := by omega
  have hWne : W ≠ -1 := by omega
  have hox : lay (x + 0) = (11 + 1, 15) := hT.2 0 (Or.inl ⟨by decide, by decide⟩)
  have hWo : ∀ u : Unit, ¬ inT (W - x) := fun _ => by unfold inT; omega
  refine z_al3 eL_hat_0 hWne ?_
  refine z_iconst eL_hat_1 ?_
  refine z_al0 eL_hat_2 hne ?_
  refine z_il1 eL_hat_3 ?_
  refine z_il2 eL_hat_4 ?_
  refine z_hcall (av := [zI a0, zI a1]) (st := [zI 0, zP W]) (L := [zP (x + 0), zI a0, zI a1, zP W, zU]) eL_hat_5 vL_59 rfl hC (Nat.le_of_ble_eq_true rfl) hox rfl (Nat.le_of_ble_eq_true rfl) (fun hk l m s' C' hE => ?_) (fun hk => ?_) (fun hk hk1 => ?_)
  · have hv2 := hv hk
    have lW : l W = (101, 1) := by rw [hE.1 W hWx.2]; exact hW
    refine z_if_eq (tgt := 15) eL_hat_8 rfl ⟨by omega, by omega⟩ (fun hv0 => ?_) (fun hv0 => ?_)
    · refine z_lconst0 eL_hat_15 ?_
      refine z_lastore eL_hat_16 lW ⟨by decide, by decide⟩ ?_
      rw [tC_out_set (hWo ())]
      refine z_goto (tgt := 24) eL_hat_17 rfl ?_
      refine z_iconst eL_hat_24 ?_
      refine z_ireturn eL_hat_25 rfl ?_
      subst hk
      exact hE.out hW hWx _ (fun _ => by rw [if_pos hv0])
    · refine z_lconst1 eL_hat_11 ?_
      refine z_goto (tgt := 16) eL_hat_12 rfl ?_
      refine z_lastore eL_hat_16 lW ⟨by decide, by decide⟩ ?_
      rw [tC_out_set (hWo ())]
      refine z_goto (tgt := 24) eL_hat_17 rfl ?_
      refine z_iconst eL_hat_24 ?_
      refine z_ireturn eL_hat_25 rfl ?_
      subst hk
      exact hE.out hW hWx _ (fun _ => by rw [if_neg hv0])
  · refine ⟨20, ⟨(tableOf KL_hat.2.2.2.2).take 0, (tableOf KL_hat.2.2.2.2)[0]'(by decide), (tableOf KL_hat.2.2.2.2).drop 1, rfl, by decide, by decide, cL_24, by decide +kernel, rfl, fun z hz => by cases hz⟩, fun a l m s' C' hE => ?_⟩
    refine z_ax4 eL_hat_20 (Nat.ne_of_beq_eq_false rfl) ?_
    refine z_iconst eL_hat_22 ?_
    refine z_ireturn eL_hat_23 rfl ?_
    subst hk
    exact hE.exc (by decide)
  · exfalso
    rcases h012 with z | z | z
    · exact hk z
    · exact hk1 z
    · exact z.2 rfl
theorem h_out {G : zG} {lay : zLay} {C s σ : zMem} {x y nx W kk v : Int} {b : Nat × Nat} {P' : zMem → Prop} {a0 a1 : Int} (hT : TopL lay x) (hd : x + 313 ≤ y) (hW : lay W = (101, 1)) (hWx : y + 12 ≤ W ∧ W < nx) (h012 : kk = 0 ∨ kk = 1 ∨ (kk = 2 ∧ zEb ≠ zEb)) (hv : kk = 0 → v = 0 ∨ v = 1) (hC : zMM G 8 KX11_out (zP (x + 0) :: [zI a0, zI a1]) lay (tC x s C) nx b (zEg lay x y nx C σ kk v zEb zEb P')) : zMM G 9 KL_out [zP (x + 0), zI a0, zI a1, zP W] lay (tC x s C) nx b (zHQ lay x y nx W C σ kk (if v = 0 then 0 else 1) P') := by
  refine z_metHs (L := [zP (x + 0), zI a0, zI a1, zP W, zU]) gL_out.1 (fun z => by cases z) rfl (Nat.le_of_ble_eq_true rfl) rfl ?_
  have hx := hT.1
  have hne : x + 0 ≠ -1 := by omega
  have hWne : W ≠ -1 := by omega
  have hox : lay (x + 0) = (11 + 1, 15) := hT.2 0 (Or.inl ⟨by decide, by decide⟩)
  have hWo : ∀ u : Unit, ¬ inT (W - x) := fun _ => by unfold inT; omega
  refine z_al3 eL_out_0 hWne ?_
  refine z_iconst eL_out_1 ?_
  refine z_al0 eL_out_2 hne ?_
  refine z_il1 eL_out_3 ?_
  refine z_il2 eL_out_4 ?_
  refine z_hcall (av := [zI a0, zI a1]) (st := [zI 0, zP W]) (L := [zP (x + 0), zI a0, zI a1, zP W, zU]) eL_out_5 vL_63 rfl hC (Nat.le_of_ble_eq_true rfl) hox rfl (Nat.le_of_ble_eq_true rfl) (fun hk l m s' C' hE => ?_) (fun hk => ?_) (fun hk hk1 => ?_)
  · have hv2 := hv hk
    have lW : l W = (101, 1) := by rw [hE.1 W hWx.2]; exact hW
    refine z_if_eq (tgt := 15) eL_out_8 rfl ⟨by omega, by omega⟩ (fun hv0 => ?_) (fun hv0 => ?_)
    · refine z_lconst0 eL_out_15 ?_
      refine z_lastore eL_out_16 lW ⟨by decide, by decide⟩ ?_
      rw [tC_out_set (hWo ())]
      refine z_goto (tgt := 24) eL_out_17 rfl ?_
      refine z_iconst eL_out_24 ?_
      refine z_ireturn eL_out_25 rfl ?_
      subst hk
      exact hE.out hW hWx _ (fun _ => by rw [if_pos hv0])
    · refine z_lconst1 eL_out_11 ?_
      refine z_goto (tgt := 16) eL_out_12 rfl ?_
      refine z_lastore eL_out_16 lW ⟨by decide, by decide⟩ ?_
      rw [tC_out_set (hWo ())]
      refine z_goto (tgt := 24) eL_out_17 rfl ?_
      refine z_iconst eL_out_24 ?_
      refine z_ireturn eL_out_25 rfl ?_
      subst hk
      exact hE.out hW hWx _ (fun _ => by rw [if_neg hv0])
  · refine ⟨20, ⟨(tableOf KL_out.2.2.2.2).take 0, (tableOf KL_out.2.2.2.2)[0]'(by decide), (tableOf KL_out.2.2.2.2).drop 1, rfl, by decide, by decide, cL_24, by decide +kernel, rfl, fun z hz => by cases hz⟩, fun a l m s' C' hE => ?_⟩
    refine z_ax4 eL_out_20 (Nat.ne_of_beq_eq_false rfl) ?_
    refine z_iconst eL_out_22 ?_
    refine z_ireturn eL_out_23 rfl ?_
    subst hk
    exact hE.exc (by decide)
  · exfalso
    rcases h012 with z | z | z
    · exact hk z
    · exact hk1 z
    · exact z.2 rfl
theorem h_walk {G : zG} {lay : zLay} {C s σ : zMem} {x y nx W kk v : Int} {b : Nat × Nat} {P' : zMem → Prop} {a0 a1 : Int} (hT : TopL lay x) (hd : x + 313 ≤ y) (hW : lay W = (101, 1)) (hWx : y + 12 ≤ W ∧ W < nx) (h012 : kk = 0 ∨ kk = 1 ∨ (kk = 2 ∧ zEb ≠ zEb)) (hC : zMM G 8 KX11_walk (zP (x + 0) :: [zI a0, zI a1]) lay (tC x s C) nx b (zEg lay x y nx C σ kk v zEb zEb P')) : zMM G 9 KL_walk [zP (x + 0), zI a0, zI a1, zP W] lay (tC x s C) nx b (zHQ lay x y nx W C σ kk (zwr v) P') := by
  refine z_metHs (L := [zP (x + 0), zI a0, zI a1, zP W, zU]) gL_walk.1 (fun z => by cases z) rfl (Nat.le_of_ble_eq_true rfl) rfl ?_
  have hx := hT.1
  have hne : x + 0 ≠ -1 := by omega
  have hWne : W ≠ -1 := by omega
  have hox : lay (x + 0) = (11 + 1, 15) := hT.2 0 (Or.inl ⟨by decide, by decide⟩)
  have hWo : ∀ u : Unit, ¬ inT (W - x) := fun _ => by unfold inT; omega
  refine z_al3 eL_walk_0 hWne ?_
  refine z_iconst eL_walk_1 ?_
  refine z_al0 eL_walk_2 hne ?_
  refine z_il1 eL_walk_3 ?_
  refine z_il2 eL_walk_4 ?_
  refine z_hcall (av := [zI a0, zI a1]) (st := [zI 0, zP W]) (L := [zP (x + 0), zI a0, zI a1, zP W, zU]) eL_walk_5 vL_66 rfl hC (Nat.le_of_ble_eq_true rfl) hox rfl (Nat.le_of_ble_eq_true rfl) (fun hk l m s' C' hE => ?_) (fun hk => ?_) (fun hk hk1 => ?_)
  · refine zW.wr ?_
    refine z_i2l eL_walk_8 (zwr_in v) ?_
    have lW : l W = (101, 1) := by rw [hE.1 W hWx.2]; exact hW
    refine z_lastore eL_walk_9 lW ⟨by decide, by decide⟩ ?_
    rw [tC_out_set (hWo ())]
    refine z_goto (tgt := 17) eL_walk_10 rfl ?_
    refine z_iconst eL_walk_17 ?_
    refine z_ireturn eL_walk_18 rfl ?_
    subst hk
    exact hE.out hW hWx _ (fun _ => rfl)
  · refine ⟨13, ⟨(tableOf KL_walk.2.2.2.2).take 0, (tableOf KL_walk.2.2.2.2)[0]'(by decide), (tableOf KL_walk.2.2.2.2).drop 1, rfl, by decide, by decide, cL_24, by decide +kernel, rfl, fun z hz => by cases hz⟩, fun a l m s' C' hE => ?_⟩
    refine z_ax4 eL_walk_13 (Nat.ne_of_beq_eq_false rfl) ?_
    refine z_iconst eL_walk_15 ?_
    refine z_ireturn eL_walk_16 rfl ?_
    subst hk
    exact hE.exc (by decide)
  · exfalso
    rcases h012 with z | z | z
    · exact hk z
    · exact hk1 z
    · exact z.2 rfl
theorem h_mind {G : zG} {lay : zLay} {C s σ : zMem} {x y nx W kk v : Int} {b : Nat × Nat} {P' : zMem → Prop} {a0 a1 : Int} (hT : TopL lay x) (hd : x + 313 ≤ y) (hW : lay W = (101, 1)) (hWx : y + 12 ≤ W ∧ W < nx) (h012 : kk = 0 ∨ kk = 1 ∨ (kk = 2 ∧ zEb ≠ zEs)) (hv : kk = 0 → v = 0 ∨ v = 1) (hC : zMM G 8 KX11_mind (zP (x + 0) :: [zI a0, zI a1]) lay (tC x s C) nx b (zEg lay x y nx C σ kk v zEb zEs P')) : zMM G 9 KL_mind [zP (x + 0), zI a0, zI a1, zP W] lay (tC x s C) nx b (zHQ lay x y nx W C σ kk (if v = 0 then 0 else 1) P') := by
  refine z_metHs (L := [zP (x + 0), zI a0, zI a1, zP W, zU]) gL_mind.1 (fun z => by cases z) rfl (Nat.le_of_ble_eq_true rfl) rfl ?_
  have hx := hT.1
  have hne : x + 0 ≠ -1 := by omega
  have hWne : W ≠ -1 := by omega
  have hox : lay (x + 0) = (11 + 1, 15) := hT.2 0 (Or.inl ⟨by decide, by decide⟩)
  have hWo : ∀ u : Unit, ¬ inT (W - x) := fun _ => by unfold inT; omega
  refine z_al3 eL_mind_0 hWne ?_
  refine z_iconst eL_mind_1 ?_
  refine z_al0 eL_mind_2 hne ?_
  refine z_il1 eL_mind_3 ?_
  refine z_il2 eL_mind_4 ?_
  refine z_hcall (av := [zI a0, zI a1]) (st := [zI 0, zP W]) (L := [zP (x + 0), zI a0, zI a1, zP W, zU]) eL_mind_5 vL_69 rfl hC (Nat.le_of_ble_eq_true rfl) hox rfl (Nat.le_of_ble_eq_true rfl) (fun hk l m s' C' hE => ?_) (fun hk => ?_) (fun hk hk1 => ?_)
  · have hv2 := hv hk
    have lW : l W = (101, 1) := by rw [hE.1 W hWx.2]; exact hW
    refine z_if_eq (tgt := 15) eL_mind_8 rfl ⟨by omega, by omega⟩ (fun hv0 => ?_) (fun hv0 => ?_)
    · refine z_lconst0 eL_mind_15 ?_
      refine z_lastore eL_mind_16 lW ⟨by decide, by decide⟩ ?_
      rw [tC_out_set (hWo ())]
      refine z_goto (tgt := 28) eL_mind_17 rfl ?_
      refine z_iconst eL_mind_28 ?_
      refine z_ireturn eL_mind_29 rfl ?_
      subst hk
      exact hE.out hW hWx _ (fun _ => by rw [if_pos hv0])
    · refine z_lconst1 eL_mind_11 ?_
      refine z_goto (tgt := 16) eL_mind_12 rfl ?_
      refine z_lastore eL_mind_16 lW ⟨by decide, by decide⟩ ?_
      rw [tC_out_set (hWo ())]
      refine z_goto (tgt := 28) eL_mind_17 rfl ?_
      refine z_iconst eL_mind_28 ?_
      refine z_ireturn eL_mind_29 rfl ?_
      subst hk
      exact hE.out hW hWx _ (fun _ => by rw [if_neg hv0])
  · refine ⟨20, ⟨(tableOf KL_mind.2.2.2.2).take 0, (tableOf KL_mind.2.2.2.2)[0]'(by decide), (tableOf KL_mind.2.2.2.2).drop 1, rfl, by decide, by decide, cL_24, by decide +kernel, rfl, fun z hz => by cases hz⟩, fun a l m s' C' hE => ?_⟩
    refine z_ax4 eL_mind_20 (Nat.ne_of_beq_eq_false rfl) ?_
    refine z_iconst eL_mind_22 ?_
    refine z_ireturn eL_mind_23 rfl ?_
    subst hk
    exact hE.exc (by decide)
  · have hk2 : kk = 2 := by rcases h012 with z | z | z; exact absurd z hk; exact absurd z hk1; exact z.1
    refine ⟨24, ⟨(tableOf KL_mind.2.2.2.2).take 1, (tableOf KL_mind.2.2.2.2)[1]'(by decide), (tableOf KL_mind.2.2.2.2).drop 2, rfl, by decide, by decide, cL_54, by decide +kernel, rfl, fun z hz => by rcases List.mem_cons.mp hz with e | e; subst e; exact Or.inr ⟨by decide, "java/lang/IndexOutOfBoundsException", cL_24, by decide +kernel⟩; cases e⟩, fun a l m s' C' hE => ?_⟩
    refine z_ax4 eL_mind_24 (Nat.ne_of_beq_eq_false rfl) ?_
    refine z_iconst eL_mind_26 ?_
    refine z_ireturn eL_mind_27 rfl ?_
    rw [← hk2]
    exact hE.exc hk
theorem h_seat {G : zG} {lay : zLay} {C s σ : zMem} {x y nx W kk v : Int} {b : Nat × Nat} {P' : zMem → Prop} {a0 a1 : Int} (hT : TopL lay x) (hd : x + 313 ≤ y) (hW : lay W = (101, 1)) (hWx : y + 12 ≤ W ∧ W < nx) (h012 : kk = 0 ∨ kk = 1 ∨ (kk = 2 ∧ zEb ≠ zEa)) (hC : zMM G 8 KX11_seat (zP (x + 0) :: [zI a0, zI a1]) lay (tC x s C) nx b (zEg lay x y nx C σ kk v zEb zEa P')) : zMM G 9 KL_seat [zP (x + 0), zI a0, zI a1, zP W] lay (tC x s C) nx b (zHQ lay x y nx W C σ kk (zwr v) P') := by
  refine z_metHs (L := [zP (x + 0), zI a0, zI a1, zP W, zU]) gL_seat.1 (fun z => by cases z) rfl (Nat.le_of_ble_eq_true rfl) rfl ?_
  have hx := hT.1
  have hne : x + 0 ≠ -1 := by omega
  have hWne : W ≠ -1 := by omega
  have hox : lay (x + 0) = (11 + 1, 15) := hT.2 0 (Or.inl ⟨by decide, by decide⟩)
  have hWo : ∀ u : Unit, ¬ inT (W - x) := fun _ => by unfold inT; omega
  refine z_al3 eL_seat_0 hWne ?_
  refine z_iconst eL_seat_1 ?_
  refine z_al0 eL_seat_2 hne ?_
  refine z_il1 eL_seat_3 ?_
  refine z_il2 eL_seat_4 ?_
  refine z_hcall (av := [zI a0, zI a1]) (st := [zI 0, zP W]) (L := [zP (x + 0), zI a0, zI a1, zP W, zU]) eL_seat_5 vL_73 rfl hC (Nat.le_of_ble_eq_true rfl) hox rfl (Nat.le_of_ble_eq_true rfl) (fun hk l m s' C' hE => ?_) (fun hk => ?_) (fun hk hk1 => ?_)
  · refine zW.wr ?_
    refine z_i2l eL_seat_8 (zwr_in v) ?_
    have lW : l W = (101, 1) := by rw [hE.1 W hWx.2]; exact hW
    refine z_lastore eL_seat_9 lW ⟨by decide, by decide⟩ ?_
    rw [tC_out_set (hWo ())]
    refine z_goto (tgt := 21) eL_seat_10 rfl ?_
    refine z_iconst eL_seat_21 ?_
    refine z_ireturn eL_seat_22 rfl ?_
    subst hk
    exact hE.out hW hWx _ (fun _ => rfl)
  · refine ⟨13, ⟨(tableOf KL_seat.2.2.2.2).take 0, (tableOf KL_seat.2.2.2.2)[0]'(by decide), (tableOf KL_seat.2.2.2.2).drop 1, rfl, by decide, by decide, cL_24, by decide +kernel, rfl, fun z hz => by cases hz⟩, fun a l m s' C' hE => ?_⟩
    refine z_ax4 eL_seat_13 (Nat.ne_of_beq_eq_false rfl) ?_
    refine z_iconst eL_seat_15 ?_
    refine z_ireturn eL_seat_16 rfl ?_
    subst hk
    exact hE.exc (by decide)
  · have hk2 : kk = 2 := by rcases h012 with z | z | z; exact absurd z hk; exact absurd z hk1; exact z.1
    refine ⟨17, ⟨(tableOf KL_seat.2.2.2.2).take 1, (tableOf KL_seat.2.2.2.2)[1]'(by decide), (tableOf KL_seat.2.2.2.2).drop 2, rfl, by decide, by decide, cL_13, by decide +kernel, rfl, fun z hz => by rcases List.mem_cons.mp hz with e | e; subst e; exact Or.inr ⟨by decide, "java/lang/IndexOutOfBoundsException", cL_24, by decide +kernel⟩; cases e⟩, fun a l m s' C' hE => ?_⟩
    refine z_ax4 eL_seat_17 (Nat.ne_of_beq_eq_false rfl) ?_
    refine z_iconst eL_seat_19 ?_
    refine z_ireturn eL_seat_20 rfl ?_
    rw [← hk2]
    exact hE.exc hk
theorem h_renew {G : zG} {lay : zLay} {C s σ : zMem} {x y nx W kk v : Int} {b : Nat × Nat} {P' : zMem → Prop} {a0 : Int} (hT : TopL lay x) (hd : x + 313 ≤ y) (hW : lay W = (101, 1)) (hWx : y + 12 ≤ W ∧ W < nx) (h012 : kk = 0 ∨ kk = 1 ∨ (kk = 2 ∧ zEb ≠ zEs)) (hC : zMM G 8 KX11_renew (zP (x + 0) :: [zI a0]) lay (tC x s C) nx b (zEg lay x y nx C σ kk v zEb zEs P')) : zMM G 9 KL_renew [zP (x + 0), zI a0, zP W] lay (tC x s C) nx b (zHQ lay x y nx W C σ kk (zwr v) P') := by
  refine z_metHs (L := [zP (x + 0), zI a0, zP W, zU]) gL_renew.1 (fun z => by cases z) rfl (Nat.le_of_ble_eq_true rfl) rfl ?_
  have hx := hT.1
  have hne : x + 0 ≠ -1 := by omega
  have hWne : W ≠ -1 := by omega
  have hox : lay (x + 0) = (11 + 1, 15) := hT.2 0 (Or.inl ⟨by decide, by decide⟩)
  have hWo : ∀ u : Unit, ¬ inT (W - x) := fun _ => by unfold inT; omega
  refine z_al2 eL_renew_0 hWne ?_
  refine z_iconst eL_renew_1 ?_
  refine z_al0 eL_renew_2 hne ?_
  refine z_il1 eL_renew_3 ?_
  refine z_hcall (av := [zI a0]) (st := [zI 0, zP W]) (L := [zP (x + 0), zI a0, zP W, zU]) eL_renew_4 vL_76 rfl hC (Nat.le_of_ble_eq_true rfl) hox rfl (Nat.le_of_ble_eq_true rfl) (fun hk l m s' C' hE => ?_) (fun hk => ?_) (fun hk hk1 => ?_)
  · refine zW.wr ?_
    refine z_i2l eL_renew_7 (zwr_in v) ?_
    have lW : l W = (101, 1) := by rw [hE.1 W hWx.2]; exact hW
    refine z_lastore eL_renew_8 lW ⟨by decide, by decide⟩ ?_
    rw [tC_out_set (hWo ())]
    refine z_goto (tgt := 18) eL_renew_9 rfl ?_
    refine z_iconst eL_renew_18 ?_
    refine z_ireturn eL_renew_19 rfl ?_
    subst hk
    exact hE.out hW hWx _ (fun _ => rfl)
  · refine ⟨12, ⟨(tableOf KL_renew.2.2.2.2).take 0, (tableOf KL_renew.2.2.2.2)[0]'(by decide), (tableOf KL_renew.2.2.2.2).drop 1, rfl, by decide, by decide, cL_24, by decide +kernel, rfl, fun z hz => by cases hz⟩, fun a l m s' C' hE => ?_⟩
    refine z_ax3 eL_renew_12 (Nat.ne_of_beq_eq_false rfl) ?_
    refine z_iconst eL_renew_13 ?_
    refine z_ireturn eL_renew_14 rfl ?_
    subst hk
    exact hE.exc (by decide)
  · have hk2 : kk = 2 := by rcases h012 with z | z | z; exact absurd z hk; exact absurd z hk1; exact z.1
    refine ⟨15, ⟨(tableOf KL_renew.2.2.2.2).take 1, (tableOf KL_renew.2.2.2.2)[1]'(by decide), (tableOf KL_renew.2.2.2.2).drop 2, rfl, by decide, by decide, cL_54, by decide +kernel, rfl, fun z hz => by rcases List.mem_cons.mp hz with e | e; subst e; exact Or.inr ⟨by decide, "java/lang/IndexOutOfBoundsException", cL_24, by decide +kernel⟩; cases e⟩, fun a l m s' C' hE => ?_⟩
    refine z_ax3 eL_renew_15 (Nat.ne_of_beq_eq_false rfl) ?_
    refine z_iconst eL_renew_16 ?_
    refine z_ireturn eL_renew_17 rfl ?_
    rw [← hk2]
    exact hE.exc hk
theorem h_chance {G : zG} {lay : zLay} {C s σ : zMem} {x y nx W kk v : Int} {b : Nat × Nat} {P' : zMem → Prop} {a0 a1 : Int} (hT : TopL lay x) (hd : x + 313 ≤ y) (hW : lay W = (101, 1)) (hWx : y + 12 ≤ W ∧ W < nx) (h012 : kk = 0 ∨ kk = 1 ∨ (kk = 2 ∧ zEb ≠ zEa)) (hC : zMM G 8 KX11_chance (zP (x + 0) :: [zI a0, zI a1]) lay (tC x s C) nx b (zEg lay x y nx C σ kk v zEb zEa P')) : zMM G 9 KL_chance [zP (x + 0), zI a0, zI a1, zP W] lay (tC x s C) nx b (zHQ lay x y nx W C σ kk (zwr v) P') := by
  refine z_metHs (L := [zP (x + 0), zI a0, zI a1, zP W, zU]) gL_chance.1 (fun z => by cases z) rfl (Nat.le_of_ble_eq_true rfl) rfl ?_
  have hx := hT.1
  have hne : x + 0 ≠ -1 := by omega
  have hWne : W ≠ -1 := by omega
  have hox : lay (x + 0) = (11 + 1, 15) := hT.2 0 (Or.inl ⟨by decide, by decide⟩)
  have hWo : ∀ u : Unit, ¬ inT (W - x) := fun _ => by unfold inT; omega
  refine z_al3 eL_chance_0 hWne ?_
  refine z_iconst eL_chance_1 ?_
  refine z_al0 eL_chance_2 hne ?_
  refine z_il1 eL_chance_3 ?_
  refine z_il2 eL_chance_4 ?_
  refine z_hcall (av := [zI a0, zI a1]) (st := [zI 0, zP W]) (L := [zP (x + 0), zI a0, zI a1, zP W, zU]) eL_chance_5 vL_79 rfl hC (Nat.le_of_ble_eq_true rfl) hox rfl (Nat.le_of_ble_eq_true rfl) (fun hk l m s' C' hE => ?_) (fun hk => ?_) (fun hk hk1 => ?_)
  · refine zW.wr ?_
    refine z_i2l eL_chance_8 (zwr_in v) ?_
    have lW : l W = (101, 1) := by rw [hE.1 W hWx.2]; exact hW
    refine z_lastore eL_chance_9 lW ⟨by decide, by decide⟩ ?_
    rw [tC_out_set (hWo ())]
    refine z_goto (tgt := 21) eL_chance_10 rfl ?_
    refine z_iconst eL_chance_21 ?_
    refine z_ireturn eL_chance_22 rfl ?_
    subst hk
    exact hE.out hW hWx _ (fun _ => rfl)
  · refine ⟨13, ⟨(tableOf KL_chance.2.2.2.2).take 0, (tableOf KL_chance.2.2.2.2)[0]'(by decide), (tableOf KL_chance.2.2.2.2).drop 1, rfl, by decide, by decide, cL_24, by decide +kernel, rfl, fun z hz => by cases hz⟩, fun a l m s' C' hE => ?_⟩
    refine z_ax4 eL_chance_13 (Nat.ne_of_beq_eq_false rfl) ?_
    refine z_iconst eL_chance_15 ?_
    refine z_ireturn eL_chance_16 rfl ?_
    subst hk
    exact hE.exc (by decide)
  · have hk2 : kk = 2 := by rcases h012 with z | z | z; exact absurd z hk; exact absurd z hk1; exact z.1
    refine ⟨17, ⟨(tableOf KL_chance.2.2.2.2).take 1, (tableOf KL_chance.2.2.2.2)[1]'(by decide), (tableOf KL_chance.2.2.2.2).drop 2, rfl, by decide, by decide, cL_13, by decide +kernel, rfl, fun z hz => by rcases List.mem_cons.mp hz with e | e; subst e; exact Or.inr ⟨by decide, "java/lang/IndexOutOfBoundsException", cL_24, by decide +kernel⟩; cases e⟩, fun a l m s' C' hE => ?_⟩
    refine z_ax4 eL_chance_17 (Nat.ne_of_beq_eq_false rfl) ?_
    refine z_iconst eL_chance_19 ?_
    refine z_ireturn eL_chance_20 rfl ?_
    rw [← hk2]
    exact hE.exc hk
theorem h_carries {G : zG} {lay : zLay} {C s σ : zMem} {x y nx W kk v : Int} {b : Nat × Nat} {P' : zMem → Prop} {a0 a1 : Int} (hT : TopL lay x) (hd : x + 313 ≤ y) (hW : lay W = (101, 1)) (hWx : y + 12 ≤ W ∧ W < nx) (h012 : kk = 0 ∨ kk = 1 ∨ (kk = 2 ∧ zEb ≠ zEa)) (hC : zMM G 8 KX11_carries (zP (x + 0) :: [zI a0, zI a1]) lay (tC x s C) nx b (zEg lay x y nx C σ kk v zEb zEa P')) : zMM G 9 KL_carries [zP (x + 0), zI a0, zI a1, zP W] lay (tC x s C) nx b (zHQ lay x y nx W C σ kk (zwr v) P') := by
  refine z_metHs (L := [zP (x + 0), zI a0, zI a1, zP W, zU]) gL_carries.1 (fun z => by cases z) rfl (Nat.le_of_ble_eq_true rfl) rfl ?_
  have hx := hT.1
  have hne : x + 0 ≠ -1 := by omega
  have hWne : W ≠ -1 := by omega
  have hox : lay (x + 0) = (11 + 1, 15) := hT.2 0 (Or.inl ⟨by decide, by decide⟩)
  have hWo : ∀ u : Unit, ¬ inT (W - x) := fun _ => by unfold inT; omega
  refine z_al3 eL_carries_0 hWne ?_
  refine z_iconst eL_carries_1 ?_
  refine z_al0 eL_carries_2 hne ?_
  refine z_il1 eL_carries_3 ?_
  refine z_il2 eL_carries_4 ?_
  refine z_hcall (av := [zI a0, zI a1]) (st := [zI 0, zP W]) (L := [zP (x + 0), zI a0, zI a1, zP W, zU]) eL_carries_5 vL_82 rfl hC (Nat.le_of_ble_eq_true rfl) hox rfl (Nat.le_of_ble_eq_true rfl) (fun hk l m s' C' hE => ?_) (fun hk => ?_) (fun hk hk1 => ?_)
  · refine zW.wr ?_
    refine z_i2l eL_carries_8 (zwr_in v) ?_
    have lW : l W = (101, 1) := by rw [hE.1 W hWx.2]; exact hW
    refine z_lastore eL_carries_9 lW ⟨by decide, by decide⟩ ?_
    rw [tC_out_set (hWo ())]
    refine z_goto (tgt := 21) eL_carries_10 rfl ?_
    refine z_iconst eL_carries_21 ?_
    refine z_ireturn eL_carries_22 rfl ?_
    subst hk
    exact hE.out hW hWx _ (fun _ => rfl)
  · refine ⟨13, ⟨(tableOf KL_carries.2.2.2.2).take 0, (tableOf KL_carries.2.2.2.2)[0]'(by decide), (tableOf KL_carries.2.2.2.2).drop 1, rfl, by decide, by decide, cL_24, by decide +kernel, rfl, fun z hz => by cases hz⟩, fun a l m s' C' hE => ?_⟩
    refine z_ax4 eL_carries_13 (Nat.ne_of_beq_eq_false rfl) ?_
    refine z_iconst eL_carries_15 ?_
    refine z_ireturn eL_carries_16 rfl ?_
    subst hk
    exact hE.exc (by decide)
  · have hk2 : kk = 2 := by rcases h012 with z | z | z; exact absurd z hk; exact absurd z hk1; exact z.1
    refine ⟨17, ⟨(tableOf KL_carries.2.2.2.2).take 1, (tableOf KL_carries.2.2.2.2)[1]'(by decide), (tableOf KL_carries.2.2.2.2).drop 2, rfl, by decide, by decide, cL_13, by decide +kernel, rfl, fun z hz => by rcases List.mem_cons.mp hz with e | e; subst e; exact Or.inr ⟨by decide, "java/lang/IndexOutOfBoundsException", cL_24, by decide +kernel⟩; cases e⟩, fun a l m s' C' hE => ?_⟩
    refine z_ax4 eL_carries_17 (Nat.ne_of_beq_eq_false rfl) ?_
    refine z_iconst eL_carries_19 ?_
    refine z_ireturn eL_carries_20 rfl ?_
    rw [← hk2]
    exact hE.exc hk
theorem h_soonest {G : zG} {lay : zLay} {C s σ : zMem} {x y nx W kk v : Int} {b : Nat × Nat} {P' : zMem → Prop} {a0 a1 : Int} (hT : TopL lay x) (hd : x + 313 ≤ y) (hW : lay W = (101, 1)) (hWx : y + 12 ≤ W ∧ W < nx) (h012 : kk = 0 ∨ kk = 1 ∨ (kk = 2 ∧ zEb ≠ zEa)) (hC : zMM G 8 KX11_soonest (zP (x + 0) :: [zI a0, zI a1]) lay (tC x s C) nx b (zEg lay x y nx C σ kk v zEb zEa P')) : zMM G 9 KL_soonest [zP (x + 0), zI a0, zI a1, zP W] lay (tC x s C) nx b (zHQ lay x y nx W C σ kk (zwr v) P') := by
  refine z_metHs (L := [zP (x + 0), zI a0, zI a1, zP W, zU]) gL_soonest.1 (fun z => by cases z) rfl (Nat.le_of_ble_eq_true rfl) rfl ?_
  have hx := hT.1
  have hne : x + 0 ≠ -1 := by omega
  have hWne : W ≠ -1 := by omega
  have hox : lay (x + 0) = (11 + 1, 15) := hT.2 0 (Or.inl ⟨by decide, by decide⟩)
  have hWo : ∀ u : Unit, ¬ inT (W - x) := fun _ => by unfold inT; omega
  refine z_al3 eL_soonest_0 hWne ?_
  refine z_iconst eL_soonest_1 ?_
  refine z_al0 eL_soonest_2 hne ?_
  refine z_il1 eL_soonest_3 ?_
  refine z_il2 eL_soonest_4 ?_
  refine z_hcall (av := [zI a0, zI a1]) (st := [zI 0, zP W]) (L := [zP (x + 0), zI a0, zI a1, zP W, zU]) eL_soonest_5 vL_85 rfl hC (Nat.le_of_ble_eq_true rfl) hox rfl (Nat.le_of_ble_eq_true rfl) (fun hk l m s' C' hE => ?_) (fun hk => ?_) (fun hk hk1 => ?_)
  · refine zW.wr ?_
    refine z_i2l eL_soonest_8 (zwr_in v) ?_
    have lW : l W = (101, 1) := by rw [hE.1 W hWx.2]; exact hW
    refine z_lastore eL_soonest_9 lW ⟨by decide, by decide⟩ ?_
    rw [tC_out_set (hWo ())]
    refine z_goto (tgt := 21) eL_soonest_10 rfl ?_
    refine z_iconst eL_soonest_21 ?_
    refine z_ireturn eL_soonest_22 rfl ?_
    subst hk
    exact hE.out hW hWx _ (fun _ => rfl)
  · refine ⟨13, ⟨(tableOf KL_soonest.2.2.2.2).take 0, (tableOf KL_soonest.2.2.2.2)[0]'(by decide), (tableOf KL_soonest.2.2.2.2).drop 1, rfl, by decide, by decide, cL_24, by decide +kernel, rfl, fun z hz => by cases hz⟩, fun a l m s' C' hE => ?_⟩
    refine z_ax4 eL_soonest_13 (Nat.ne_of_beq_eq_false rfl) ?_
    refine z_iconst eL_soonest_15 ?_
    refine z_ireturn eL_soonest_16 rfl ?_
    subst hk
    exact hE.exc (by decide)
  · have hk2 : kk = 2 := by rcases h012 with z | z | z; exact absurd z hk; exact absurd z hk1; exact z.1
    refine ⟨17, ⟨(tableOf KL_soonest.2.2.2.2).take 1, (tableOf KL_soonest.2.2.2.2)[1]'(by decide), (tableOf KL_soonest.2.2.2.2).drop 2, rfl, by decide, by decide, cL_13, by decide +kernel, rfl, fun z hz => by rcases List.mem_cons.mp hz with e | e; subst e; exact Or.inr ⟨by decide, "java/lang/IndexOutOfBoundsException", cL_24, by decide +kernel⟩; cases e⟩, fun a l m s' C' hE => ?_⟩
    refine z_ax4 eL_soonest_17 (Nat.ne_of_beq_eq_false rfl) ?_
    refine z_iconst eL_soonest_19 ?_
    refine z_ireturn eL_soonest_20 rfl ?_
    rw [← hk2]
    exact hE.exc hk
theorem h_when {G : zG} {lay : zLay} {C s σ : zMem} {x y nx W kk v : Int} {b : Nat × Nat} {P' : zMem → Prop} {a0 : Int} (hT : TopL lay x) (hd : x + 313 ≤ y) (hW : lay W = (101, 1)) (hWx : y + 12 ≤ W ∧ W < nx) (h012 : kk = 0 ∨ kk = 1 ∨ (kk = 2 ∧ zEb ≠ zEb)) (hC : zMM G 8 KX11_when (zP (x + 0) :: [zI a0]) lay (tC x s C) nx b (zEg lay x y nx C σ kk v zEb zEb P')) : zMM G 9 KL_when [zP (x + 0), zI a0, zP W] lay (tC x s C) nx b (zHQ lay x y nx W C σ kk (zwr v) P') := by
  refine z_metHs (L := [zP (x + 0), zI a0, zP W, zU]) gL_when.1 (fun z => by cases z) rfl (Nat.le_of_ble_eq_true rfl) rfl ?_
  have hx := hT.1
  have hne : x + 0 ≠ -1 := by omega
  have hWne : W ≠ -1 := by omega
  have hox : lay (x + 0) = (11 + 1, 15) := hT.2 0 (Or.inl ⟨by decide, by decide⟩)
  have hWo : ∀ u : Unit, ¬ inT (W - x) := fun _ => by unfold inT; omega
  refine z_al2 eL_when_0 hWne ?_
  refine z_iconst eL_when_1 ?_
  refine z_al0 eL_when_2 hne ?_
  refine z_il1 eL_when_3 ?_
  refine z_hcall (av := [zI a0]) (st := [zI 0, zP W]) (L := [zP (x + 0), zI a0, zP W, zU]) eL_when_4 vL_88 rfl hC (Nat.le_of_ble_eq_true rfl) hox rfl (Nat.le_of_ble_eq_true rfl) (fun hk l m s' C' hE => ?_) (fun hk => ?_) (fun hk hk1 => ?_)
  · refine zW.wr ?_
    refine z_i2l eL_when_7 (zwr_in v) ?_
    have lW : l W = (101, 1) := by rw [hE.1 W hWx.2]; exact hW
    refine z_lastore eL_when_8 lW ⟨by decide, by decide⟩ ?_
    rw [tC_out_set (hWo ())]
    refine z_goto (tgt := 15) eL_when_9 rfl ?_
    refine z_iconst eL_when_15 ?_
    refine z_ireturn eL_when_16 rfl ?_
    subst hk
    exact hE.out hW hWx _ (fun _ => rfl)
  · refine ⟨12, ⟨(tableOf KL_when.2.2.2.2).take 0, (tableOf KL_when.2.2.2.2)[0]'(by decide), (tableOf KL_when.2.2.2.2).drop 1, rfl, by decide, by decide, cL_24, by decide +kernel, rfl, fun z hz => by cases hz⟩, fun a l m s' C' hE => ?_⟩
    refine z_ax3 eL_when_12 (Nat.ne_of_beq_eq_false rfl) ?_
    refine z_iconst eL_when_13 ?_
    refine z_ireturn eL_when_14 rfl ?_
    subst hk
    exact hE.exc (by decide)
  · exfalso
    rcases h012 with z | z | z
    · exact hk z
    · exact hk1 z
    · exact z.2 rfl
theorem h_best {G : zG} {lay : zLay} {C s σ : zMem} {x y nx W kk v : Int} {b : Nat × Nat} {P' : zMem → Prop} {a0 : Int} (hT : TopL lay x) (hd : x + 313 ≤ y) (hW : lay W = (101, 1)) (hWx : y + 12 ≤ W ∧ W < nx) (h012 : kk = 0 ∨ kk = 1 ∨ (kk = 2 ∧ zEb ≠ zEb)) (hC : zMM G 8 KX11_best (zP (x + 0) :: [zI a0]) lay (tC x s C) nx b (zEg lay x y nx C σ kk v zEb zEb P')) : zMM G 9 KL_best [zP (x + 0), zI a0, zP W] lay (tC x s C) nx b (zHQ lay x y nx W C σ kk (zwr v) P') := by
  refine z_metHs (L := [zP (x + 0), zI a0, zP W, zU]) gL_best.1 (fun z => by cases z) rfl (Nat.le_of_ble_eq_true rfl) rfl ?_
  have hx := hT.1
  have hne : x + 0 ≠ -1 := by omega
  have hWne : W ≠ -1 := by omega
  have hox : lay (x + 0) = (11 + 1, 15) := hT.2 0 (Or.inl ⟨by decide, by decide⟩)
  have hWo : ∀ u : Unit, ¬ inT (W - x) := fun _ => by unfold inT; omega
  refine z_al2 eL_best_0 hWne ?_
  refine z_iconst eL_best_1 ?_
  refine z_al0 eL_best_2 hne ?_
  refine z_il1 eL_best_3 ?_
  refine z_hcall (av := [zI a0]) (st := [zI 0, zP W]) (L := [zP (x + 0), zI a0, zP W, zU]) eL_best_4 vL_91 rfl hC (Nat.le_of_ble_eq_true rfl) hox rfl (Nat.le_of_ble_eq_true rfl) (fun hk l m s' C' hE => ?_) (fun hk => ?_) (fun hk hk1 => ?_)
  · refine zW.wr ?_
    refine z_i2l eL_best_7 (zwr_in v) ?_
    have lW : l W = (101, 1) := by rw [hE.1 W hWx.2]; exact hW
    refine z_lastore eL_best_8 lW ⟨by decide, by decide⟩ ?_
    rw [tC_out_set (hWo ())]
    refine z_goto (tgt := 15) eL_best_9 rfl ?_
    refine z_iconst eL_best_15 ?_
    refine z_ireturn eL_best_16 rfl ?_
    subst hk
    exact hE.out hW hWx _ (fun _ => rfl)
  · refine ⟨12, ⟨(tableOf KL_best.2.2.2.2).take 0, (tableOf KL_best.2.2.2.2)[0]'(by decide), (tableOf KL_best.2.2.2.2).drop 1, rfl, by decide, by decide, cL_24, by decide +kernel, rfl, fun z hz => by cases hz⟩, fun a l m s' C' hE => ?_⟩
    refine z_ax3 eL_best_12 (Nat.ne_of_beq_eq_false rfl) ?_
    refine z_iconst eL_best_13 ?_
    refine z_ireturn eL_best_14 rfl ?_
    subst hk
    exact hE.exc (by decide)
  · exfalso
    rcases h012 with z | z | z
    · exact hk z
    · exact hk1 z
    · exact z.2 rfl
theorem h_shower {G : zG} {lay : zLay} {C s σ : zMem} {x y nx W kk v : Int} {b : Nat × Nat} {P' : zMem → Prop} {a0 a1 : Int} (hT : TopL lay x) (hd : x + 313 ≤ y) (hW : lay W = (101, 1)) (hWx : y + 12 ≤ W ∧ W < nx) (h012 : kk = 0 ∨ kk = 1 ∨ (kk = 2 ∧ zEa ≠ zEa)) (hC : zMM G 8 KX11_shower (zP (x + 0) :: [zI a0, zI a1]) lay (tC x s C) nx b (zEg lay x y nx C σ kk v zEa zEa P')) : zMM G 9 KL_shower [zP (x + 0), zI a0, zI a1, zP W] lay (tC x s C) nx b (zHQ lay x y nx W C σ kk (zwr v) P') := by
  refine z_metHs (L := [zP (x + 0), zI a0, zI a1, zP W, zU]) gL_shower.1 (fun z => by cases z) rfl (Nat.le_of_ble_eq_true rfl) rfl ?_
  have hx := hT.1
  have hne : x + 0 ≠ -1 := by omega
  have hWne : W ≠ -1 := by omega
  have hox : lay (x + 0) = (11 + 1, 15) := hT.2 0 (Or.inl ⟨by decide, by decide⟩)
  have hWo : ∀ u : Unit, ¬ inT (W - x) := fun _ => by unfold inT; omega
  refine z_al3 eL_shower_0 hWne ?_
  refine z_iconst eL_shower_1 ?_
  refine z_al0 eL_shower_2 hne ?_
  refine z_il1 eL_shower_3 ?_
  refine z_il2 eL_shower_4 ?_
  refine z_hcall (av := [zI a0, zI a1]) (st := [zI 0, zP W]) (L := [zP (x + 0), zI a0, zI a1, zP W, zU]) eL_shower_5 vL_94 rfl hC (Nat.le_of_ble_eq_true rfl) hox rfl (Nat.le_of_ble_eq_true rfl) (fun hk l m s' C' hE => ?_) (fun hk => ?_) (fun hk hk1 => ?_)
  · refine zW.wr ?_
    refine z_i2l eL_shower_8 (zwr_in v) ?_
    have lW : l W = (101, 1) := by rw [hE.1 W hWx.2]; exact hW
    refine z_lastore eL_shower_9 lW ⟨by decide, by decide⟩ ?_
    rw [tC_out_set (hWo ())]
    refine z_goto (tgt := 17) eL_shower_10 rfl ?_
    refine z_iconst eL_shower_17 ?_
    refine z_ireturn eL_shower_18 rfl ?_
    subst hk
    exact hE.out hW hWx _ (fun _ => rfl)
  · refine ⟨13, ⟨(tableOf KL_shower.2.2.2.2).take 0, (tableOf KL_shower.2.2.2.2)[0]'(by decide), (tableOf KL_shower.2.2.2.2).drop 1, rfl, by decide, by decide, cL_13, by decide +kernel, rfl, fun z hz => by cases hz⟩, fun a l m s' C' hE => ?_⟩
    refine z_ax4 eL_shower_13 (Nat.ne_of_beq_eq_false rfl) ?_
    refine z_iconst eL_shower_15 ?_
    refine z_ireturn eL_shower_16 rfl ?_
    subst hk
    exact hE.exc (by decide)
  · exfalso
    rcases h012 with z | z | z
    · exact hk z
    · exact hk1 z
    · exact z.2 rfl
theorem h_cuffs {G : zG} {lay : zLay} {C s σ : zMem} {x y nx W kk v : Int} {b : Nat × Nat} {P' : zMem → Prop} {a0 : Int} (hT : TopL lay x) (hd : x + 313 ≤ y) (hW : lay W = (101, 1)) (hWx : y + 12 ≤ W ∧ W < nx) (h012 : kk = 0 ∨ kk = 1 ∨ (kk = 2 ∧ zEa ≠ zEa)) (hC : zMM G 8 KX11_cuffs (zP (x + 0) :: [zI a0]) lay (tC x s C) nx b (zEg lay x y nx C σ kk v zEa zEa P')) : zMM G 9 KL_cuffs [zP (x + 0), zI a0, zP W] lay (tC x s C) nx b (zHQ lay x y nx W C σ kk (zwr v) P') := by
  refine z_metHs (L := [zP (x + 0), zI a0, zP W, zU]) gL_cuffs.1 (fun z => by cases z) rfl (Nat.le_of_ble_eq_true rfl) rfl ?_
  have hx := hT.1
  have hne : x + 0 ≠ -1 := by omega
  have hWne : W ≠ -1 := by omega
  have hox : lay (x + 0) = (11 + 1, 15) := hT.2 0 (Or.inl ⟨by decide, by decide⟩)
  have hWo : ∀ u : Unit, ¬ inT (W - x) := fun _ => by unfold inT; omega
  refine z_al2 eL_cuffs_0 hWne ?_
  refine z_iconst eL_cuffs_1 ?_
  refine z_al0 eL_cuffs_2 hne ?_
  refine z_il1 eL_cuffs_3 ?_
  refine z_hcall (av := [zI a0]) (st := [zI 0, zP W]) (L := [zP (x + 0), zI a0, zP W, zU]) eL_cuffs_4 vL_98 rfl hC (Nat.le_of_ble_eq_true rfl) hox rfl (Nat.le_of_ble_eq_true rfl) (fun hk l m s' C' hE => ?_) (fun hk => ?_) (fun hk hk1 => ?_)
  · refine zW.wr ?_
    refine z_i2l eL_cuffs_7 (zwr_in v) ?_
    have lW : l W = (101, 1) := by rw [hE.1 W hWx.2]; exact hW
    refine z_lastore eL_cuffs_8 lW ⟨by decide, by decide⟩ ?_
    rw [tC_out_set (hWo ())]
    refine z_goto (tgt := 15) eL_cuffs_9 rfl ?_
    refine z_iconst eL_cuffs_15 ?_
    refine z_ireturn eL_cuffs_16 rfl ?_
    subst hk
    exact hE.out hW hWx _ (fun _ => rfl)
  · refine ⟨12, ⟨(tableOf KL_cuffs.2.2.2.2).take 0, (tableOf KL_cuffs.2.2.2.2)[0]'(by decide), (tableOf KL_cuffs.2.2.2.2).drop 1, rfl, by decide, by decide, cL_13, by decide +kernel, rfl, fun z hz => by cases hz⟩, fun a l m s' C' hE => ?_⟩
    refine z_ax3 eL_cuffs_12 (Nat.ne_of_beq_eq_false rfl) ?_
    refine z_iconst eL_cuffs_13 ?_
    refine z_ireturn eL_cuffs_14 rfl ?_
    subst hk
    exact hE.exc (by decide)
  · exfalso
    rcases h012 with z | z | z
    · exact hk z
    · exact hk1 z
    · exact z.2 rfl
theorem h_likely {G : zG} {lay : zLay} {C s σ : zMem} {x y nx W kk v : Int} {b : Nat × Nat} {P' : zMem → Prop} (hT : TopL lay x) (hd : x + 313 ≤ y) (hW : lay W = (101, 1)) (hWx : y + 12 ≤ W ∧ W < nx) (h012 : kk = 0 ∨ kk = 1 ∨ (kk = 2 ∧ zEa ≠ zEa)) (hC : zMM G 8 KX11_likely (zP (x + 0) :: []) lay (tC x s C) nx b (zEg lay x y nx C σ kk v zEa zEa P')) : zMM G 9 KL_likely [zP (x + 0), zP W] lay (tC x s C) nx b (zHQ lay x y nx W C σ kk (zwr v) P') := by
  refine z_metHs (L := [zP (x + 0), zP W, zU]) gL_likely.1 (fun z => by cases z) rfl (Nat.le_of_ble_eq_true rfl) rfl ?_
  have hx := hT.1
  have hne : x + 0 ≠ -1 := by omega
  have hWne : W ≠ -1 := by omega
  have hox : lay (x + 0) = (11 + 1, 15) := hT.2 0 (Or.inl ⟨by decide, by decide⟩)
  have hWo : ∀ u : Unit, ¬ inT (W - x) := fun _ => by unfold inT; omega
  refine z_al1 eL_likely_0 hWne ?_
  refine z_iconst eL_likely_1 ?_
  refine z_al0 eL_likely_2 hne ?_
  refine z_hcall (av := []) (st := [zI 0, zP W]) (L := [zP (x + 0), zP W, zU]) eL_likely_3 vL_102 rfl hC (Nat.le_of_ble_eq_true rfl) hox rfl (Nat.le_of_ble_eq_true rfl) (fun hk l m s' C' hE => ?_) (fun hk => ?_) (fun hk hk1 => ?_)
  · refine zW.wr ?_
    refine z_i2l eL_likely_6 (zwr_in v) ?_
    have lW : l W = (101, 1) := by rw [hE.1 W hWx.2]; exact hW
    refine z_lastore eL_likely_7 lW ⟨by decide, by decide⟩ ?_
    rw [tC_out_set (hWo ())]
    refine z_goto (tgt := 14) eL_likely_8 rfl ?_
    refine z_iconst eL_likely_14 ?_
    refine z_ireturn eL_likely_15 rfl ?_
    subst hk
    exact hE.out hW hWx _ (fun _ => rfl)
  · refine ⟨11, ⟨(tableOf KL_likely.2.2.2.2).take 0, (tableOf KL_likely.2.2.2.2)[0]'(by decide), (tableOf KL_likely.2.2.2.2).drop 1, rfl, by decide, by decide, cL_13, by decide +kernel, rfl, fun z hz => by cases hz⟩, fun a l m s' C' hE => ?_⟩
    refine z_ax2 eL_likely_11 (Nat.ne_of_beq_eq_false rfl) ?_
    refine z_iconst eL_likely_12 ?_
    refine z_ireturn eL_likely_13 rfl ?_
    subst hk
    exact hE.exc (by decide)
  · exfalso
    rcases h012 with z | z | z
    · exact hk z
    · exact hk1 z
    · exact z.2 rfl
theorem h_ago {G : zG} {lay : zLay} {C s σ : zMem} {x y nx W kk v : Int} {b : Nat × Nat} {P' : zMem → Prop} {a0 : Int} (hT : TopL lay x) (hd : x + 313 ≤ y) (hW : lay W = (101, 1)) (hWx : y + 12 ≤ W ∧ W < nx) (h012 : kk = 0 ∨ kk = 1 ∨ (kk = 2 ∧ zEa ≠ zEa)) (hC : zMM G 8 KX11_ago (zP (x + 0) :: [zI a0]) lay (tC x s C) nx b (zEg lay x y nx C σ kk v zEa zEa P')) : zMM G 9 KL_ago [zP (x + 0), zI a0, zP W] lay (tC x s C) nx b (zHQ lay x y nx W C σ kk (zwr v) P') := by
  refine z_metHs (L := [zP (x + 0), zI a0, zP W, zU]) gL_ago.1 (fun z => by cases z) rfl (Nat.le_of_ble_eq_true rfl) rfl ?_
  have hx := hT.1
  have hne : x + 0 ≠ -1 := by omega
  have hWne : W ≠ -1 := by omega
  have hox : lay (x + 0) = (11 + 1, 15) := hT.2 0 (Or.inl ⟨by decide, by decide⟩)
  have hWo : ∀ u : Unit, ¬ inT (W - x) := fun _ => by unfold inT; omega
  refine z_al2 eL_ago_0 hWne ?_
  refine z_iconst eL_ago_1 ?_
  refine z_al0 eL_ago_2 hne ?_
  refine z_il1 eL_ago_3 ?_
  refine z_hcall (av := [zI a0]) (st := [zI 0, zP W]) (L := [zP (x + 0), zI a0, zP W, zU]) eL_ago_4 vL_105 rfl hC (Nat.le_of_ble_eq_true rfl) hox rfl (Nat.le_of_ble_eq_true rfl) (fun hk l m s' C' hE => ?_) (fun hk => ?_) (fun hk hk1 => ?_)
  · refine zW.wr ?_
    refine z_i2l eL_ago_7 (zwr_in v) ?_
    have lW : l W = (101, 1) := by rw [hE.1 W hWx.2]; exact hW
    refine z_lastore eL_ago_8 lW ⟨by decide, by decide⟩ ?_
    rw [tC_out_set (hWo ())]
    refine z_goto (tgt := 15) eL_ago_9 rfl ?_
    refine z_iconst eL_ago_15 ?_
    refine z_ireturn eL_ago_16 rfl ?_
    subst hk
    exact hE.out hW hWx _ (fun _ => rfl)
  · refine ⟨12, ⟨(tableOf KL_ago.2.2.2.2).take 0, (tableOf KL_ago.2.2.2.2)[0]'(by decide), (tableOf KL_ago.2.2.2.2).drop 1, rfl, by decide, by decide, cL_13, by decide +kernel, rfl, fun z hz => by cases hz⟩, fun a l m s' C' hE => ?_⟩
    refine z_ax3 eL_ago_12 (Nat.ne_of_beq_eq_false rfl) ?_
    refine z_iconst eL_ago_13 ?_
    refine z_ireturn eL_ago_14 rfl ?_
    subst hk
    exact hE.exc (by decide)
  · exfalso
    rcases h012 with z | z | z
    · exact hk z
    · exact hk1 z
    · exact z.2 rfl
theorem h_ask {G : zG} {lay : zLay} {C s σ : zMem} {x y nx W kk v : Int} {b : Nat × Nat} {P' : zMem → Prop} (hT : TopL lay x) (hd : x + 313 ≤ y) (hW : lay W = (101, 1)) (hWx : y + 12 ≤ W ∧ W < nx) (h012 : kk = 0 ∨ kk = 1 ∨ (kk = 2 ∧ zEa ≠ zEa)) (hC : zMM G 8 KX11_ask (zP (x + 0) :: []) lay (tC x s C) nx b (zEg lay x y nx C σ kk v zEa zEa P')) : zMM G 9 KL_ask [zP (x + 0), zP W] lay (tC x s C) nx b (zHQ lay x y nx W C σ kk (zwr v) P') := by
  refine z_metHs (L := [zP (x + 0), zP W, zU]) gL_ask.1 (fun z => by cases z) rfl (Nat.le_of_ble_eq_true rfl) rfl ?_
  have hx := hT.1
  have hne : x + 0 ≠ -1 := by omega
  have hWne : W ≠ -1 := by omega
  have hox : lay (x + 0) = (11 + 1, 15) := hT.2 0 (Or.inl ⟨by decide, by decide⟩)
  have hWo : ∀ u : Unit, ¬ inT (W - x) := fun _ => by unfold inT; omega
  refine z_al1 eL_ask_0 hWne ?_
  refine z_iconst eL_ask_1 ?_
  refine z_al0 eL_ask_2 hne ?_
  refine z_hcall (av := []) (st := [zI 0, zP W]) (L := [zP (x + 0), zP W, zU]) eL_ask_3 vL_108 rfl hC (Nat.le_of_ble_eq_true rfl) hox rfl (Nat.le_of_ble_eq_true rfl) (fun hk l m s' C' hE => ?_) (fun hk => ?_) (fun hk hk1 => ?_)
  · refine zW.wr ?_
    refine z_i2l eL_ask_6 (zwr_in v) ?_
    have lW : l W = (101, 1) := by rw [hE.1 W hWx.2]; exact hW
    refine z_lastore eL_ask_7 lW ⟨by decide, by decide⟩ ?_
    rw [tC_out_set (hWo ())]
    refine z_goto (tgt := 14) eL_ask_8 rfl ?_
    refine z_iconst eL_ask_14 ?_
    refine z_ireturn eL_ask_15 rfl ?_
    subst hk
    exact hE.out hW hWx _ (fun _ => rfl)
  · refine ⟨11, ⟨(tableOf KL_ask.2.2.2.2).take 0, (tableOf KL_ask.2.2.2.2)[0]'(by decide), (tableOf KL_ask.2.2.2.2).drop 1, rfl, by decide, by decide, cL_13, by decide +kernel, rfl, fun z hz => by cases hz⟩, fun a l m s' C' hE => ?_⟩
    refine z_ax2 eL_ask_11 (Nat.ne_of_beq_eq_false rfl) ?_
    refine z_iconst eL_ask_12 ?_
    refine z_ireturn eL_ask_13 rfl ?_
    subst hk
    exact hE.exc (by decide)
  · exfalso
    rcases h012 with z | z | z
    · exact hk z
    · exact hk1 z
    · exact z.2 rfl
theorem h_posts {G : zG} {lay : zLay} {C s σ : zMem} {x y nx W kk v : Int} {b : Nat × Nat} {P' : zMem → Prop} {a0 : Int} (hT : TopL lay x) (hd : x + 313 ≤ y) (hW : lay W = (101, 1)) (hWx : y + 12 ≤ W ∧ W < nx) (h012 : kk = 0 ∨ kk = 1 ∨ (kk = 2 ∧ zEb ≠ zEb)) (hC : zMM G 8 KX11_posts (zP (x + 0) :: [zI a0]) lay (tC x s C) nx b (zEg lay x y nx C σ kk v zEb zEb P')) : zMM G 9 KL_posts [zP (x + 0), zI a0, zP W] lay (tC x s C) nx b (zHQ lay x y nx W C σ kk (zwr v) P') := by
  refine z_metHs (L := [zP (x + 0), zI a0, zP W, zU]) gL_posts.1 (fun z => by cases z) rfl (Nat.le_of_ble_eq_true rfl) rfl ?_
  have hx := hT.1
  have hne : x + 0 ≠ -1 := by omega
  have hWne : W ≠ -1 := by omega
  have hox : lay (x + 0) = (11 + 1, 15) := hT.2 0 (Or.inl ⟨by decide, by decide⟩)
  have hWo : ∀ u : Unit, ¬ inT (W - x) := fun _ => by unfold inT; omega
  refine z_al2 eL_posts_0 hWne ?_
  refine z_iconst eL_posts_1 ?_
  refine z_al0 eL_posts_2 hne ?_
  refine z_il1 eL_posts_3 ?_
  refine z_hcall (av := [zI a0]) (st := [zI 0, zP W]) (L := [zP (x + 0), zI a0, zP W, zU]) eL_posts_4 vL_111 rfl hC (Nat.le_of_ble_eq_true rfl) hox rfl (Nat.le_of_ble_eq_true rfl) (fun hk l m s' C' hE => ?_) (fun hk => ?_) (fun hk hk1 => ?_)
  · refine zW.wr ?_
    refine z_i2l eL_posts_7 (zwr_in v) ?_
    have lW : l W = (101, 1) := by rw [hE.1 W hWx.2]; exact hW
    refine z_lastore eL_posts_8 lW ⟨by decide, by decide⟩ ?_
    rw [tC_out_set (hWo ())]
    refine z_goto (tgt := 15) eL_posts_9 rfl ?_
    refine z_iconst eL_posts_15 ?_
    refine z_ireturn eL_posts_16 rfl ?_
    subst hk
    exact hE.out hW hWx _ (fun _ => rfl)
  · refine ⟨12, ⟨(tableOf KL_posts.2.2.2.2).take 0, (tableOf KL_posts.2.2.2.2)[0]'(by decide), (tableOf KL_posts.2.2.2.2).drop 1, rfl, by decide, by decide, cL_24, by decide +kernel, rfl, fun z hz => by cases hz⟩, fun a l m s' C' hE => ?_⟩
    refine z_ax3 eL_posts_12 (Nat.ne_of_beq_eq_false rfl) ?_
    refine z_iconst eL_posts_13 ?_
    refine z_ireturn eL_posts_14 rfl ?_
    subst hk
    exact hE.exc (by decide)
  · exfalso
    rcases h012 with z | z | z
    · exact hk z
    · exact hk1 z
    · exact z.2 rfl
theorem h_swings {G : zG} {lay : zLay} {C s σ : zMem} {x y nx W kk v : Int} {b : Nat × Nat} {P' : zMem → Prop} {a0 : Int} (hT : TopL lay x) (hd : x + 313 ≤ y) (hW : lay W = (101, 1)) (hWx : y + 12 ≤ W ∧ W < nx) (h012 : kk = 0 ∨ kk = 1 ∨ (kk = 2 ∧ zEb ≠ zEb)) (hC : zMM G 9 KX11_swings (zP (x + 0) :: [zI a0]) lay (tC x s C) nx b (zEg lay x y nx C σ kk v zEb zEb P')) : zMM G 10 KL_swings [zP (x + 0), zI a0, zP W] lay (tC x s C) nx b (zHQ lay x y nx W C σ kk (zwr v) P') := by
  refine z_metHs (L := [zP (x + 0), zI a0, zP W, zU]) gL_swings.1 (fun z => by cases z) rfl (Nat.le_of_ble_eq_true rfl) rfl ?_
  have hx := hT.1
  have hne : x + 0 ≠ -1 := by omega
  have hWne : W ≠ -1 := by omega
  have hox : lay (x + 0) = (11 + 1, 15) := hT.2 0 (Or.inl ⟨by decide, by decide⟩)
  have hWo : ∀ u : Unit, ¬ inT (W - x) := fun _ => by unfold inT; omega
  refine z_al2 eL_swings_0 hWne ?_
  refine z_iconst eL_swings_1 ?_
  refine z_al0 eL_swings_2 hne ?_
  refine z_il1 eL_swings_3 ?_
  refine z_hcall (av := [zI a0]) (st := [zI 0, zP W]) (L := [zP (x + 0), zI a0, zP W, zU]) eL_swings_4 vL_114 rfl hC (Nat.le_of_ble_eq_true rfl) hox rfl (Nat.le_of_ble_eq_true rfl) (fun hk l m s' C' hE => ?_) (fun hk => ?_) (fun hk hk1 => ?_)
  · refine zW.wr ?_
    refine z_i2l eL_swings_7 (zwr_in v) ?_
    have lW : l W = (101, 1) := by rw [hE.1 W hWx.2]; exact hW
    refine z_lastore eL_swings_8 lW ⟨by decide, by decide⟩ ?_
    rw [tC_out_set (hWo ())]
    refine z_goto (tgt := 15) eL_swings_9 rfl ?_
    refine z_iconst eL_swings_15 ?_
    refine z_ireturn eL_swings_16 rfl ?_
    subst hk
    exact hE.out hW hWx _ (fun _ => rfl)
  · refine ⟨12, ⟨(tableOf KL_swings.2.2.2.2).take 0, (tableOf KL_swings.2.2.2.2)[0]'(by decide), (tableOf KL_swings.2.2.2.2).drop 1, rfl, by decide, by decide, cL_24, by decide +kernel, rfl, fun z hz => by cases hz⟩, fun a l m s' C' hE => ?_⟩
    refine z_ax3 eL_swings_12 (Nat.ne_of_beq_eq_false rfl) ?_
    refine z_iconst eL_swings_13 ?_
    refine z_ireturn eL_swings_14 rfl ?_
    subst hk
    exact hE.exc (by decide)
  · exfalso
    rcases h012 with z | z | z
    · exact hk z
    · exact hk1 z
    · exact z.2 rfl
theorem h_power {G : zG} {lay : zLay} {C s σ : zMem} {x y nx W kk v : Int} {b : Nat × Nat} {P' : zMem → Prop} {a0 : Int} (hT : TopL lay x) (hd : x + 313 ≤ y) (hW : lay W = (101, 1)) (hWx : y + 12 ≤ W ∧ W < nx) (h012 : kk = 0 ∨ kk = 1 ∨ (kk = 2 ∧ zEb ≠ zEb)) (hC : zMM G 9 KX11_power (zP (x + 0) :: [zI a0]) lay (tC x s C) nx b (zEg lay x y nx C σ kk v zEb zEb P')) : zMM G 10 KL_power [zP (x + 0), zI a0, zP W] lay (tC x s C) nx b (zHQ lay x y nx W C σ kk (zwr v) P') := by
  refine z_metHs (L := [zP (x + 0), zI a0, zP W, zU]) gL_power.1 (fun z => by cases z) rfl (Nat.le_of_ble_eq_true rfl) rfl ?_
  have hx := hT.1
  have hne : x + 0 ≠ -1 := by omega
  have hWne : W ≠ -1 := by omega
  have hox : lay (x + 0) = (11 + 1, 15) := hT.2 0 (Or.inl ⟨by decide, by decide⟩)
  have hWo : ∀ u : Unit, ¬ inT (W - x) := fun _ => by unfold inT; omega
  refine z_al2 eL_power_0 hWne ?_
  refine z_iconst eL_power_1 ?_
  refine z_al0 eL_power_2 hne ?_
  refine z_il1 eL_power_3 ?_
  refine z_hcall (av := [zI a0]) (st := [zI 0, zP W]) (L := [zP (x + 0), zI a0, zP W, zU]) eL_power_4 vL_117 rfl hC (Nat.le_of_ble_eq_true rfl) hox rfl (Nat.le_of_ble_eq_true rfl) (fun hk l m s' C' hE => ?_) (fun hk => ?_) (fun hk hk1 => ?_)
  · refine zW.wr ?_
    refine z_i2l eL_power_7 (zwr_in v) ?_
    have lW : l W = (101, 1) := by rw [hE.1 W hWx.2]; exact hW
    refine z_lastore eL_power_8 lW ⟨by decide, by decide⟩ ?_
    rw [tC_out_set (hWo ())]
    refine z_goto (tgt := 15) eL_power_9 rfl ?_
    refine z_iconst eL_power_15 ?_
    refine z_ireturn eL_power_16 rfl ?_
    subst hk
    exact hE.out hW hWx _ (fun _ => rfl)
  · refine ⟨12, ⟨(tableOf KL_power.2.2.2.2).take 0, (tableOf KL_power.2.2.2.2)[0]'(by decide), (tableOf KL_power.2.2.2.2).drop 1, rfl, by decide, by decide, cL_24, by decide +kernel, rfl, fun z hz => by cases hz⟩, fun a l m s' C' hE => ?_⟩
    refine z_ax3 eL_power_12 (Nat.ne_of_beq_eq_false rfl) ?_
    refine z_iconst eL_power_13 ?_
    refine z_ireturn eL_power_14 rfl ?_
    subst hk
    exact hE.exc (by decide)
  · exfalso
    rcases h012 with z | z | z
    · exact hk z
    · exact hk1 z
    · exact z.2 rfl
theorem h_minds {G : zG} {lay : zLay} {C s σ : zMem} {x y nx W kk v : Int} {b : Nat × Nat} {P' : zMem → Prop} {a0 : Int} (hT : TopL lay x) (hd : x + 313 ≤ y) (hW : lay W = (101, 1)) (hWx : y + 12 ≤ W ∧ W < nx) (h012 : kk = 0 ∨ kk = 1 ∨ (kk = 2 ∧ zEb ≠ zEb)) (hC : zMM G 8 KX11_minds (zP (x + 0) :: [zI a0]) lay (tC x s C) nx b (zEg lay x y nx C σ kk v zEb zEb P')) : zMM G 9 KL_minds [zP (x + 0), zI a0, zP W] lay (tC x s C) nx b (zHQ lay x y nx W C σ kk (zwr v) P') := by
  refine z_metHs (L := [zP (x + 0), zI a0, zP W, zU]) gL_minds.1 (fun z => by cases z) rfl (Nat.le_of_ble_eq_true rfl) rfl ?_
  have hx := hT.1
  have hne : x + 0 ≠ -1 := by omega
  have hWne : W ≠ -1 := by omega
  have hox : lay (x + 0) = (11 + 1, 15) := hT.2 0 (Or.inl ⟨by decide, by decide⟩)
  have hWo : ∀ u : Unit, ¬ inT (W - x) := fun _ => by unfold inT; omega
  refine z_al2 eL_minds_0 hWne ?_
  refine z_iconst eL_minds_1 ?_
  refine z_al0 eL_minds_2 hne ?_
  refine z_il1 eL_minds_3 ?_
  refine z_hcall (av := [zI a0]) (st := [zI 0, zP W]) (L := [zP (x + 0), zI a0, zP W, zU]) eL_minds_4 vL_120 rfl hC (Nat.le_of_ble_eq_true rfl) hox rfl (Nat.le_of_ble_eq_true rfl) (fun hk l m s' C' hE => ?_) (fun hk => ?_) (fun hk hk1 => ?_)
  · refine zW.wr ?_
    refine z_i2l eL_minds_7 (zwr_in v) ?_
    have lW : l W = (101, 1) := by rw [hE.1 W hWx.2]; exact hW
    refine z_lastore eL_minds_8 lW ⟨by decide, by decide⟩ ?_
    rw [tC_out_set (hWo ())]
    refine z_goto (tgt := 15) eL_minds_9 rfl ?_
    refine z_iconst eL_minds_15 ?_
    refine z_ireturn eL_minds_16 rfl ?_
    subst hk
    exact hE.out hW hWx _ (fun _ => rfl)
  · refine ⟨12, ⟨(tableOf KL_minds.2.2.2.2).take 0, (tableOf KL_minds.2.2.2.2)[0]'(by decide), (tableOf KL_minds.2.2.2.2).drop 1, rfl, by decide, by decide, cL_24, by decide +kernel, rfl, fun z hz => by cases hz⟩, fun a l m s' C' hE => ?_⟩
    refine z_ax3 eL_minds_12 (Nat.ne_of_beq_eq_false rfl) ?_
    refine z_iconst eL_minds_13 ?_
    refine z_ireturn eL_minds_14 rfl ?_
    subst hk
    exact hE.exc (by decide)
  · exfalso
    rcases h012 with z | z | z
    · exact hk z
    · exact hk1 z
    · exact z.2 rfl
theorem h_bargain {G : zG} {lay : zLay} {C s σ : zMem} {x y nx W kk v : Int} {b : Nat × Nat} {P' : zMem → Prop} {a0 a1 : Int} (hT : TopL lay x) (hd : x + 313 ≤ y) (hW : lay W = (101, 1)) (hWx : y + 12 ≤ W ∧ W < nx) (h012 : kk = 0 ∨ kk = 1 ∨ (kk = 2 ∧ zEb ≠ zEa)) (hC : zMM G 8 KX11_bargain (zP (x + 0) :: [zI a0, zI a1]) lay (tC x s C) nx b (zEg lay x y nx C σ kk v zEb zEa P')) : zMM G 9 KL_bargain [zP (x + 0), zI a0, zI a1, zP W] lay (tC x s C) nx b (zHQ lay x y nx W C σ kk (zwr v) P') := by
  refine z_metHs (L := [zP (x + 0), zI a0, zI a1, zP W, zU]) gL_bargain.1 (fun z => by cases z) rfl (Nat.le_of_ble_eq_true rfl) rfl ?_
  have hx := hT.1
  have hne : x + 0 ≠ -1 := by omega
  have hWne : W ≠ -1 := by omega
  have hox : lay (x + 0) = (11 + 1, 15) := hT.2 0 (Or.inl ⟨by decide, by decide⟩)
  have hWo : ∀ u : Unit, ¬ inT (W - x) := fun _ => by unfold inT; omega
  refine z_al3 eL_bargain_0 hWne ?_
  refine z_iconst eL_bargain_1 ?_
  refine z_al0 eL_bargain_2 hne ?_
  refine z_il1 eL_bargain_3 ?_
  refine z_il2 eL_bargain_4 ?_
  refine z_hcall (av := [zI a0, zI a1]) (st := [zI 0, zP W]) (L := [zP (x + 0), zI a0, zI a1, zP W, zU]) eL_bargain_5 vL_123 rfl hC (Nat.le_of_ble_eq_true rfl) hox rfl (Nat.le_of_ble_eq_true rfl) (fun hk l m s' C' hE => ?_) (fun hk => ?_) (fun hk hk1 => ?_)
  · refine zW.wr ?_
    refine z_i2l eL_bargain_8 (zwr_in v) ?_
    have lW : l W = (101, 1) := by rw [hE.1 W hWx.2]; exact hW
    refine z_lastore eL_bargain_9 lW ⟨by decide, by decide⟩ ?_
    rw [tC_out_set (hWo ())]
    refine z_goto (tgt := 21) eL_bargain_10 rfl ?_
    refine z_iconst eL_bargain_21 ?_
    refine z_ireturn eL_bargain_22 rfl ?_
    subst hk
    exact hE.out hW hWx _ (fun _ => rfl)
  · refine ⟨13, ⟨(tableOf KL_bargain.2.2.2.2).take 0, (tableOf KL_bargain.2.2.2.2)[0]'(by decide), (tableOf KL_bargain.2.2.2.2).drop 1, rfl, by decide, by decide, cL_24, by decide +kernel, rfl, fun z hz => by cases hz⟩, fun a l m s' C' hE => ?_⟩
    refine z_ax4 eL_bargain_13 (Nat.ne_of_beq_eq_false rfl) ?_
    refine z_iconst eL_bargain_15 ?_
    refine z_ireturn eL_bargain_16 rfl ?_
    subst hk
    exact hE.exc (by decide)
  · have hk2 : kk = 2 := by rcases h012 with z | z | z; exact absurd z hk; exact absurd z hk1; exact z.1
    refine ⟨17, ⟨(tableOf KL_bargain.2.2.2.2).take 1, (tableOf KL_bargain.2.2.2.2)[1]'(by decide), (tableOf KL_bargain.2.2.2.2).drop 2, rfl, by decide, by decide, cL_13, by decide +kernel, rfl, fun z hz => by rcases List.mem_cons.mp hz with e | e; subst e; exact Or.inr ⟨by decide, "java/lang/IndexOutOfBoundsException", cL_24, by decide +kernel⟩; cases e⟩, fun a l m s' C' hE => ?_⟩
    refine z_ax4 eL_bargain_17 (Nat.ne_of_beq_eq_false rfl) ?_
    refine z_iconst eL_bargain_19 ?_
    refine z_ireturn eL_bargain_20 rfl ?_
    rw [← hk2]
    exact hE.exc hk
theorem h_like {G : zG} {lay : zLay} {C s σ : zMem} {x y nx W kk v : Int} {b : Nat × Nat} {P' : zMem → Prop} {a0 a1 : Int} (hT : TopL lay x) (hd : x + 313 ≤ y) (hW : lay W = (101, 1)) (hWx : y + 12 ≤ W ∧ W < nx) (h012 : kk = 0 ∨ kk = 1 ∨ (kk = 2 ∧ zEb ≠ zEa)) (hC : zMM G 8 KX11_like (zP (x + 0) :: [zI a0, zI a1]) lay (tC x s C) nx b (zEg lay x y nx C σ kk v zEb zEa P')) : zMM G 9 KL_like [zP (x + 0), zI a0, zI a1, zP W] lay (tC x s C) nx b (zHQ lay x y nx W C σ kk (zwr v) P') := by
  refine z_metHs (L := [zP (x + 0), zI a0, zI a1, zP W, zU]) gL_like.1 (fun z => by cases z) rfl (Nat.le_of_ble_eq_true rfl) rfl ?_
  have hx := hT.1
  have hne : x + 0 ≠ -1 := by omega
  have hWne : W ≠ -1 := by omega
  have hox : lay (x + 0) = (11 + 1, 15) := hT.2 0 (Or.inl ⟨by decide, by decide⟩)
  have hWo : ∀ u : Unit, ¬ inT (W - x) := fun _ => by unfold inT; omega
  refine z_al3 eL_like_0 hWne ?_
  refine z_iconst eL_like_1 ?_
  refine z_al0 eL_like_2 hne ?_
  refine z_il1 eL_like_3 ?_
  refine z_il2 eL_like_4 ?_
  refine z_hcall (av := [zI a0, zI a1]) (st := [zI 0, zP W]) (L := [zP (x + 0), zI a0, zI a1, zP W, zU]) eL_like_5 vL_126 rfl hC (Nat.le_of_ble_eq_true rfl) hox rfl (Nat.le_of_ble_eq_true rfl) (fun hk l m s' C' hE => ?_) (fun hk => ?_) (fun hk hk1 => ?_)
  · refine zW.wr ?_
    refine z_i2l eL_like_8 (zwr_in v) ?_
    have lW : l W = (101, 1) := by rw [hE.1 W hWx.2]; exact hW
    refine z_lastore eL_like_9 lW ⟨by decide, by decide⟩ ?_
    rw [tC_out_set (hWo ())]
    refine z_goto (tgt := 21) eL_like_10 rfl ?_
    refine z_iconst eL_like_21 ?_
    refine z_ireturn eL_like_22 rfl ?_
    subst hk
    exact hE.out hW hWx _ (fun _ => rfl)
  · refine ⟨13, ⟨(tableOf KL_like.2.2.2.2).take 0, (tableOf KL_like.2.2.2.2)[0]'(by decide), (tableOf KL_like.2.2.2.2).drop 1, rfl, by decide, by decide, cL_24, by decide +kernel, rfl, fun z hz => by cases hz⟩, fun a l m s' C' hE => ?_⟩
    refine z_ax4 eL_like_13 (Nat.ne_of_beq_eq_false rfl) ?_
    refine z_iconst eL_like_15 ?_
    refine z_ireturn eL_like_16 rfl ?_
    subst hk
    exact hE.exc (by decide)
  · have hk2 : kk = 2 := by rcases h012 with z | z | z; exact absurd z hk; exact absurd z hk1; exact z.1
    refine ⟨17, ⟨(tableOf KL_like.2.2.2.2).take 1, (tableOf KL_like.2.2.2.2)[1]'(by decide), (tableOf KL_like.2.2.2.2).drop 2, rfl, by decide, by decide, cL_13, by decide +kernel, rfl, fun z hz => by rcases List.mem_cons.mp hz with e | e; subst e; exact Or.inr ⟨by decide, "java/lang/IndexOutOfBoundsException", cL_24, by decide +kernel⟩; cases e⟩, fun a l m s' C' hE => ?_⟩
    refine z_ax4 eL_like_17 (Nat.ne_of_beq_eq_false rfl) ?_
    refine z_iconst eL_like_19 ?_
    refine z_ireturn eL_like_20 rfl ?_
    rw [← hk2]
    exact hE.exc hk
theorem h_dry {G : zG} {lay : zLay} {C s σ : zMem} {x y nx W kk v : Int} {b : Nat × Nat} {P' : zMem → Prop} {a0 : Int} (hT : TopL lay x) (hd : x + 313 ≤ y) (hW : lay W = (101, 1)) (hWx : y + 12 ≤ W ∧ W < nx) (h012 : kk = 0 ∨ kk = 1 ∨ (kk = 2 ∧ zEa ≠ zEa)) (hC : zMM G 8 KX11_dry (zP (x + 0) :: [zI a0]) lay (tC x s C) nx b (zEg lay x y nx C σ kk v zEa zEa P')) : zMM G 9 KL_dry [zP (x + 0), zI a0, zP W] lay (tC x s C) nx b (zHQ lay x y nx W C σ kk (zwr v) P') := by
  refine z_metHs (L := [zP (x + 0), zI a0, zP W, zU]) gL_dry.1 (fun z => by cases z) rfl (Nat.le_of_ble_eq_true rfl) rfl ?_
  have hx := hT.1
  have hne : x + 0 ≠ -1 := by omega
  have hWne : W ≠ -1 := by omega
  have hox : lay (x + 0) = (11 + 1, 15) := hT.2 0 (Or.inl ⟨by decide, by decide⟩)
  have hWo : ∀ u : Unit, ¬ inT (W - x) := fun _ => by unfold inT; omega
  refine z_al2 eL_dry_0 hWne ?_
  refine z_iconst eL_dry_1 ?_
  refine z_al0 eL_dry_2 hne ?_
  refine z_il1 eL_dry_3 ?_
  refine z_hcall (av := [zI a0]) (st := [zI 0, zP W]) (L := [zP (x + 0), zI a0, zP W, zU]) eL_dry_4 vL_129 rfl hC (Nat.le_of_ble_eq_true rfl) hox rfl (Nat.le_of_ble_eq_true rfl) (fun hk l m s' C' hE => ?_) (fun hk => ?_) (fun hk hk1 => ?_)
  · refine zW.wr ?_
    refine z_i2l eL_dry_7 (zwr_in v) ?_
    have lW : l W = (101, 1) := by rw [hE.1 W hWx.2]; exact hW
    refine z_lastore eL_dry_8 lW ⟨by decide, by decide⟩ ?_
    rw [tC_out_set (hWo ())]
    refine z_goto (tgt := 15) eL_dry_9 rfl ?_
    refine z_iconst eL_dry_15 ?_
    refine z_ireturn eL_dry_16 rfl ?_
    subst hk
    exact hE.out hW hWx _ (fun _ => rfl)
  · refine ⟨12, ⟨(tableOf KL_dry.2.2.2.2).take 0, (tableOf KL_dry.2.2.2.2)[0]'(by decide), (tableOf KL_dry.2.2.2.2).drop 1, rfl, by decide, by decide, cL_13, by decide +kernel, rfl, fun z hz => by cases hz⟩, fun a l m s' C' hE => ?_⟩
    refine z_ax3 eL_dry_12 (Nat.ne_of_beq_eq_false rfl) ?_
    refine z_iconst eL_dry_13 ?_
    refine z_ireturn eL_dry_14 rfl ?_
    subst hk
    exact hE.exc (by decide)
  · exfalso
    rcases h012 with z | z | z
    · exact hk z
    · exact hk1 z
    · exact z.2 rfl
theorem h_drought {G : zG} {lay : zLay} {C s σ : zMem} {x y nx W kk v : Int} {b : Nat × Nat} {P' : zMem → Prop} {a0 : Int} (hT : TopL lay x) (hd : x + 313 ≤ y) (hW : lay W = (101, 1)) (hWx : y + 12 ≤ W ∧ W < nx) (h012 : kk = 0 ∨ kk = 1 ∨ (kk = 2 ∧ zEa ≠ zEa)) (hC : zMM G 8 KX11_drought (zP (x + 0) :: [zI a0]) lay (tC x s C) nx b (zEg lay x y nx C σ kk v zEa zEa P')) : zMM G 9 KL_drought [zP (x + 0), zI a0, zP W] lay (tC x s C) nx b (zHQ lay x y nx W C σ kk (zwr v) P') := by
  refine z_metHs (L := [zP (x + 0), zI a0, zP W, zU]) gL_drought.1 (fun z => by cases z) rfl (Nat.le_of_ble_eq_true rfl) rfl ?_
  have hx := hT.1
  have hne : x + 0 ≠ -1 := by omega
  have hWne : W ≠ -1 := by omega
  have hox : lay (x + 0) = (11 + 1, 15) := hT.2 0 (Or.inl ⟨by decide, by decide⟩)
  have hWo : ∀ u : Unit, ¬ inT (W - x) := fun _ => by unfold inT; omega
  refine z_al2 eL_drought_0 hWne ?_
  refine z_iconst eL_drought_1 ?_
  refine z_al0 eL_drought_2 hne ?_
  refine z_il1 eL_drought_3 ?_
  refine z_hcall (av := [zI a0]) (st := [zI 0, zP W]) (L := [zP (x + 0), zI a0, zP W, zU]) eL_drought_4 vL_132 rfl hC (Nat.le_of_ble_eq_true rfl) hox rfl (Nat.le_of_ble_eq_true rfl) (fun hk l m s' C' hE => ?_) (fun hk => ?_) (fun hk hk1 => ?_)
  · refine zW.wr ?_
    refine z_i2l eL_drought_7 (zwr_in v) ?_
    have lW : l W = (101, 1) := by rw [hE.1 W hWx.2]; exact hW
    refine z_lastore eL_drought_8 lW ⟨by decide, by decide⟩ ?_
    rw [tC_out_set (hWo ())]
    refine z_goto (tgt := 15) eL_drought_9 rfl ?_
    refine z_iconst eL_drought_15 ?_
    refine z_ireturn eL_drought_16 rfl ?_
    subst hk
    exact hE.out hW hWx _ (fun _ => rfl)
  · refine ⟨12, ⟨(tableOf KL_drought.2.2.2.2).take 0, (tableOf KL_drought.2.2.2.2)[0]'(by decide), (tableOf KL_drought.2.2.2.2).drop 1, rfl, by decide, by decide, cL_13, by decide +kernel, rfl, fun z hz => by cases hz⟩, fun a l m s' C' hE => ?_⟩
    refine z_ax3 eL_drought_12 (Nat.ne_of_beq_eq_false rfl) ?_
    refine z_iconst eL_drought_13 ?_
    refine z_ireturn eL_drought_14 rfl ?_
    subst hk
    exact hE.exc (by decide)
  · exfalso
    rcases h012 with z | z | z
    · exact hk z
    · exact hk1 z
    · exact z.2 rfl
theorem h_rests {G : zG} {lay : zLay} {C s σ : zMem} {x y nx W kk v : Int} {b : Nat × Nat} {P' : zMem → Prop} {a0 : Int} (hT : TopL lay x) (hd : x + 313 ≤ y) (hW : lay W = (101, 1)) (hWx : y + 12 ≤ W ∧ W < nx) (h012 : kk = 0 ∨ kk = 1 ∨ (kk = 2 ∧ zEb ≠ zEb)) (hC : zMM G 8 KX11_rests (zP (x + 0) :: [zI a0]) lay (tC x s C) nx b (zEg lay x y nx C σ kk v zEb zEb P')) : zMM G 9 KL_rests [zP (x + 0), zI a0, zP W] lay (tC x s C) nx b (zHQ lay x y nx W C σ kk (zwr v) P') := by
  refine z_metHs (L := [zP (x + 0), zI a0, zP W, zU]) gL_rests.1 (fun z => by cases z) rfl (Nat.le_of_ble_eq_true rfl) rfl ?_
  have hx := hT.1
  have hne : x + 0 ≠ -1 := by omega
  have hWne : W ≠ -1 := by omega
  have hox : lay (x + 0) = (11 + 1, 15) := hT.2 0 (Or.inl ⟨by decide, by decide⟩)
  have hWo : ∀ u : Unit, ¬ inT (W - x) := fun _ => by unfold inT; omega
  refine z_al2 eL_rests_0 hWne ?_
  refine z_iconst eL_rests_1 ?_
  refine z_al0 eL_rests_2 hne ?_
  refine z_il1 eL_rests_3 ?_
  refine z_hcall (av := [zI a0]) (st := [zI 0, zP W]) (L := [zP (x + 0), zI a0, zP W, zU]) eL_rests_4 vL_135 rfl hC (Nat.le_of_ble_eq_true rfl) hox rfl (Nat.le_of_ble_eq_true rfl) (fun hk l m s' C' hE => ?_) (fun hk => ?_) (fun hk hk1 => ?_)
  · refine zW.wr ?_
    refine z_i2l eL_rests_7 (zwr_in v) ?_
    have lW : l W = (101, 1) := by rw [hE.1 W hWx.2]; exact hW
    refine z_lastore eL_rests_8 lW ⟨by decide, by decide⟩ ?_
    rw [tC_out_set (hWo ())]
    refine z_goto (tgt := 15) eL_rests_9 rfl ?_
    refine z_iconst eL_rests_15 ?_
    refine z_ireturn eL_rests_16 rfl ?_
    subst hk
    exact hE.out hW hWx _ (fun _ => rfl)
  · refine ⟨12, ⟨(tableOf KL_rests.2.2.2.2).take 0, (tableOf KL_rests.2.2.2.2)[0]'(by decide), (tableOf KL_rests.2.2.2.2).drop 1, rfl, by decide, by decide, cL_24, by decide +kernel, rfl, fun z hz => by cases hz⟩, fun a l m s' C' hE => ?_⟩
    refine z_ax3 eL_rests_12 (Nat.ne_of_beq_eq_false rfl) ?_
    refine z_iconst eL_rests_13 ?_
    refine z_ireturn eL_rests_14 rfl ?_
    subst hk
    exact hE.exc (by decide)
  · exfalso
    rcases h012 with z | z | z
    · exact hk z
    · exact hk1 z
    · exact z.2 rfl
theorem h_trial {G : zG} {lay : zLay} {C s σ : zMem} {x y nx W kk v : Int} {b : Nat × Nat} {P' : zMem → Prop} {a0 a1 : Int} (hT : TopL lay x) (hd : x + 313 ≤ y) (hW : lay W = (101, 1)) (hWx : y + 12 ≤ W ∧ W < nx) (h012 : kk = 0 ∨ kk = 1 ∨ (kk = 2 ∧ zEa ≠ zEa)) (hC : zMM G 8 KX11_trial (zP (x + 0) :: [zI a0, zI a1]) lay (tC x s C) nx b (zEg lay x y nx C σ kk v zEa zEa P')) : zMM G 9 KL_trial [zP (x + 0), zI a0, zI a1, zP W] lay (tC x s C) nx b (zHQ lay x y nx W C σ kk (zwr v) P') := by
  refine z_metHs (L := [zP (x + 0), zI a0, zI a1, zP W, zU]) gL_trial.1 (fun z => by cases z) rfl (Nat.le_of_ble_eq_true rfl) rfl ?_
  have hx := hT.1
  have hne : x + 0 ≠ -1 := by omega
  have hWne : W ≠ -1 := by omega
  have hox : lay (x + 0) = (11 + 1, 15) := hT.2 0 (Or.inl ⟨by decide, by decide⟩)
  have hWo : ∀ u : Unit, ¬ inT (W - x) := fun _ => by unfold inT; omega
  refine z_al3 eL_trial_0 hWne ?_
  refine z_iconst eL_trial_1 ?_
  refine z_al0 eL_trial_2 hne ?_
  refine z_il1 eL_trial_3 ?_
  refine z_il2 eL_trial_4 ?_
  refine z_hcall (av := [zI a0, zI a1]) (st := [zI 0, zP W]) (L := [zP (x + 0), zI a0, zI a1, zP W, zU]) eL_trial_5 vL_138 rfl hC (Nat.le_of_ble_eq_true rfl) hox rfl (Nat.le_of_ble_eq_true rfl) (fun hk l m s' C' hE => ?_) (fun hk => ?_) (fun hk hk1 => ?_)
  · refine zW.wr ?_
    refine z_i2l eL_trial_8 (zwr_in v) ?_
    have lW : l W = (101, 1) := by rw [hE.1 W hWx.2]; exact hW
    refine z_lastore eL_trial_9 lW ⟨by decide, by decide⟩ ?_
    rw [tC_out_set (hWo ())]
    refine z_goto (tgt := 17) eL_trial_10 rfl ?_
    refine z_iconst eL_trial_17 ?_
    refine z_ireturn eL_trial_18 rfl ?_
    subst hk
    exact hE.out hW hWx _ (fun _ => rfl)
  · refine ⟨13, ⟨(tableOf KL_trial.2.2.2.2).take 0, (tableOf KL_trial.2.2.2.2)[0]'(by decide), (tableOf KL_trial.2.2.2.2).drop 1, rfl, by decide, by decide, cL_13, by decide +kernel, rfl, fun z hz => by cases hz⟩, fun a l m s' C' hE => ?_⟩
    refine z_ax4 eL_trial_13 (Nat.ne_of_beq_eq_false rfl) ?_
    refine z_iconst eL_trial_15 ?_
    refine z_ireturn eL_trial_16 rfl ?_
    subst hk
    exact hE.exc (by decide)
  · exfalso
    rcases h012 with z | z | z
    · exact hk z
    · exact hk1 z
    · exact z.2 rfl
theorem h_span {G : zG} {lay : zLay} {C s σ : zMem} {x y nx W kk v : Int} {b : Nat × Nat} {P' : zMem → Prop} {a0 a1 : Int} (hT : TopL lay x) (hd : x + 313 ≤ y) (hW : lay W = (101, 1)) (hWx : y + 12 ≤ W ∧ W < nx) (h012 : kk = 0 ∨ kk = 1 ∨ (kk = 2 ∧ zEa ≠ zEa)) (hC : zMM G 8 KX11_span (zP (x + 0) :: [zI a0, zI a1]) lay (tC x s C) nx b (zEg lay x y nx C σ kk v zEa zEa P')) : zMM G 9 KL_span [zP (x + 0), zI a0, zI a1, zP W] lay (tC x s C) nx b (zHQ lay x y nx W C σ kk (zwr v) P') := by
  refine z_metHs (L := [zP (x + 0), zI a0, zI a1, zP W, zU]) gL_span.1 (fun z => by cases z) rfl (Nat.le_of_ble_eq_true rfl) rfl ?_
  have hx := hT.1
  have hne : x + 0 ≠ -1 := by omega
  have hWne : W ≠ -1 := by omega
  have hox : lay (x + 0) = (11 + 1, 15) := hT.2 0 (Or.inl ⟨by decide, by decide⟩)
  have hWo : ∀ u : Unit, ¬ inT (W - x) := fun _ => by unfold inT; omega
  refine z_al3 eL_span_0 hWne ?_
  refine z_iconst eL_span_1 ?_
  refine z_al0 eL_span_2 hne ?_
  refine z_il1 eL_span_3 ?_
  refine z_il2 eL_span_4 ?_
  refine z_hcall (av := [zI a0, zI a1]) (st := [zI 0, zP W]) (L := [zP (x + 0), zI a0, zI a1, zP W, zU]) eL_span_5 vL_141 rfl hC (Nat.le_of_ble_eq_true rfl) hox rfl (Nat.le_of_ble_eq_true rfl) (fun hk l m s' C' hE => ?_) (fun hk => ?_) (fun hk hk1 => ?_)
  · refine zW.wr ?_
    refine z_i2l eL_span_8 (zwr_in v) ?_
    have lW : l W = (101, 1) := by rw [hE.1 W hWx.2]; exact hW
    refine z_lastore eL_span_9 lW ⟨by decide, by decide⟩ ?_
    rw [tC_out_set (hWo ())]
    refine z_goto (tgt := 17) eL_span_10 rfl ?_
    refine z_iconst eL_span_17 ?_
    refine z_ireturn eL_span_18 rfl ?_
    subst hk
    exact hE.out hW hWx _ (fun _ => rfl)
  · refine ⟨13, ⟨(tableOf KL_span.2.2.2.2).take 0, (tableOf KL_span.2.2.2.2)[0]'(by decide), (tableOf KL_span.2.2.2.2).drop 1, rfl, by decide, by decide, cL_13, by decide +kernel, rfl, fun z hz => by cases hz⟩, fun a l m s' C' hE => ?_⟩
    refine z_ax4 eL_span_13 (Nat.ne_of_beq_eq_false rfl) ?_
    refine z_iconst eL_span_15 ?_
    refine z_ireturn eL_span_16 rfl ?_
    subst hk
    exact hE.exc (by decide)
  · exfalso
    rcases h012 with z | z | z
    · exact hk z
    · exact hk1 z
    · exact z.2 rfl
theorem h_led {G : zG} {lay : zLay} {C s σ : zMem} {x y nx W kk v : Int} {b : Nat × Nat} {P' : zMem → Prop} {a0 a1 : Int} (hT : TopL lay x) (hd : x + 313 ≤ y) (hW : lay W = (101, 1)) (hWx : y + 12 ≤ W ∧ W < nx) (h012 : kk = 0 ∨ kk = 1 ∨ (kk = 2 ∧ zEb ≠ zEb)) (hC : zMM G 8 KX11_led (zP (x + 0) :: [zI a0, zI a1]) lay (tC x s C) nx b (zEg lay x y nx C σ kk v zEb zEb P')) : zMM G 9 KL_led [zP (x + 0), zI a0, zI a1, zP W] lay (tC x s C) nx b (zHQ lay x y nx W C σ kk (zwr v) P') := by
  refine z_metHs (L := [zP (x + 0), zI a0, zI a1, zP W, zU]) gL_led.1 (fun z => by cases z) rfl (Nat.le_of_ble_eq_true rfl) rfl ?_
  have hx := hT.1
  have hne : x + 0 ≠ -1 := by omega
  have hWne : W ≠ -1 := by omega
  have hox : lay (x + 0) = (11 + 1, 15) := hT.2 0 (Or.inl ⟨by decide, by decide⟩)
  have hWo : ∀ u : Unit, ¬ inT (W - x) := fun _ => by unfold inT; omega
  refine z_al3 eL_led_0 hWne ?_
  refine z_iconst eL_led_1 ?_
  refine z_al0 eL_led_2 hne ?_
  refine z_il1 eL_led_3 ?_
  refine z_il2 eL_led_4 ?_
  refine z_hcall (av := [zI a0, zI a1]) (st := [zI 0, zP W]) (L := [zP (x + 0), zI a0, zI a1, zP W, zU]) eL_led_5 vL_144 rfl hC (Nat.le_of_ble_eq_true rfl) hox rfl (Nat.le_of_ble_eq_true rfl) (fun hk l m s' C' hE => ?_) (fun hk => ?_) (fun hk hk1 => ?_)
  · refine zW.wr ?_
    refine z_i2l eL_led_8 (zwr_in v) ?_
    have lW : l W = (101, 1) := by rw [hE.1 W hWx.2]; exact hW
    refine z_lastore eL_led_9 lW ⟨by decide, by decide⟩ ?_
    rw [tC_out_set (hWo ())]
    refine z_goto (tgt := 17) eL_led_10 rfl ?_
    refine z_iconst eL_led_17 ?_
    refine z_ireturn eL_led_18 rfl ?_
    subst hk
    exact hE.out hW hWx _ (fun _ => rfl)
  · refine ⟨13, ⟨(tableOf KL_led.2.2.2.2).take 0, (tableOf KL_led.2.2.2.2)[0]'(by decide), (tableOf KL_led.2.2.2.2).drop 1, rfl, by decide, by decide, cL_24, by decide +kernel, rfl, fun z hz => by cases hz⟩, fun a l m s' C' hE => ?_⟩
    refine z_ax4 eL_led_13 (Nat.ne_of_beq_eq_false rfl) ?_
    refine z_iconst eL_led_15 ?_
    refine z_ireturn eL_led_16 rfl ?_
    subst hk
    exact hE.exc (by decide)
  · exfalso
    rcases h012 with z | z | z
    · exact hk z
    · exact hk1 z
    · exact z.2 rfl
theorem h_log {G : zG} {lay : zLay} {C s σ : zMem} {x y nx W kk v : Int} {b : Nat × Nat} {P' : zMem → Prop} {a0 a1 : Int} (hT : TopL lay x) (hd : x + 313 ≤ y) (hW : lay W = (101, 1)) (hWx : y + 12 ≤ W ∧ W < nx) (h012 : kk = 0 ∨ kk = 1 ∨ (kk = 2 ∧ zEn ≠ zEn)) (hC : zMM G 7 KX11_log (zP (x + 0) :: [zI a0, zI a1]) lay (tC x s C) nx b (zEg lay x y nx C σ kk v zEn zEn P')) : zMM G 8 KL_log [zP (x + 0), zI a0, zI a1, zP W] lay (tC x s C) nx b (zHQ lay x y nx W C σ kk (zwr v) P') := by
  refine z_metHs (L := [zP (x + 0), zI a0, zI a1, zP W, zU]) gL_log.1 (fun z => by cases z) rfl (Nat.le_of_ble_eq_true rfl) rfl ?_
  have hx := hT.1
  have hne : x + 0 ≠ -1 := by omega
  have hWne : W ≠ -1 := by omega
  have hox : lay (x + 0) = (11 + 1, 15) := hT.2 0 (Or.inl ⟨by decide, by decide⟩)
  have hWo : ∀ u : Unit, ¬ inT (W - x) := fun _ => by unfold inT; omega
  refine z_al3 eL_log_0 hWne ?_
  refine z_iconst eL_log_1 ?_
  refine z_al0 eL_log_2 hne ?_
  refine z_il1 eL_log_3 ?_
  refine z_il2 eL_log_4 ?_
  refine z_hcall (av := [zI a0, zI a1]) (st := [zI 0, zP W]) (L := [zP (x + 0), zI a0, zI a1, zP W, zU]) eL_log_5 vL_147 rfl hC (Nat.le_of_ble_eq_true rfl) hox rfl (Nat.le_of_ble_eq_true rfl) (fun hk l m s' C' hE => ?_) (fun hk => ?_) (fun hk hk1 => ?_)
  · refine zW.wr ?_
    refine z_i2l eL_log_8 (zwr_in v) ?_
    have lW : l W = (101, 1) := by rw [hE.1 W hWx.2]; exact hW
    refine z_lastore eL_log_9 lW ⟨by decide, by decide⟩ ?_
    rw [tC_out_set (hWo ())]
    refine z_goto (tgt := 17) eL_log_10 rfl ?_
    refine z_iconst eL_log_17 ?_
    refine z_ireturn eL_log_18 rfl ?_
    subst hk
    exact hE.out hW hWx _ (fun _ => rfl)
  · refine ⟨13, ⟨(tableOf KL_log.2.2.2.2).take 0, (tableOf KL_log.2.2.2.2)[0]'(by decide), (tableOf KL_log.2.2.2.2).drop 1, rfl, by decide, by decide, cL_26, by decide +kernel, rfl, fun z hz => by cases hz⟩, fun a l m s' C' hE => ?_⟩
    refine z_ax4 eL_log_13 (Nat.ne_of_beq_eq_false rfl) ?_
    refine z_iconst eL_log_15 ?_
    refine z_ireturn eL_log_16 rfl ?_
    subst hk
    exact hE.exc (by decide)
  · exfalso
    rcases h012 with z | z | z
    · exact hk z
    · exact hk1 z
    · exact z.2 rfl
