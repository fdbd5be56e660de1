/-! The reference, made. -/
theorem w_al : Cond.arrayClass .long ∈ zTg := by decide +kernel
def qM00 (j : Int) : Int := if j = 1 then -1 else if j = 5 ∨ j = 8 ∨ j = 12 then 1 else if j = 9 ∨ j = 10 then 3 else 0
theorem qM00_z {j : Int} (h1 : ¬ j = 1) (h5 : ¬ j = 5) (h8 : ¬ j = 8) (h9 : ¬ j = 9) (h10 : ¬ j = 10) (h12 : ¬ j = 12) : 0 = qM00 j := by
  unfold qM00
  rw [if_neg h1, if_neg (by omega), if_neg (by omega)]
def NwX12a (lay l : zLay) (C c : zMem) (o : Int) : Prop := (∀ p, p < o → l p = lay p) ∧ (∀ p, p < o → c p = C p) ∧ (∀ p, p = o + 0 → l p = (13, 26)) ∧ (∀ p, p = o + 1 → l p = (100, 826)) ∧ (∀ p, p = o + 2 → l p = (100, 826)) ∧ (∀ p, p = o + 3 → l p = (100, 426)) ∧ (∀ p, p = o + 4 → l p = (100, 5112)) ∧ (∀ p, p = o + 5 → l p = (100, 400)) ∧ (∀ p, p = o + 6 → l p = (100, 7)) ∧ (∀ p, p = o + 7 → l p = (100, 5)) ∧ (∀ p, p = o + 8 → l p = (100, 5)) ∧ (∀ p, p = o + 9 → l p = (101, 5)) ∧ (∀ p, p = o + 10 → l p = (101, 5)) ∧ (∀ p, p = o + 11 → l p = (100, 3328)) ∧ (∀ p, p = o + 0 → c p 1 = o + 1) ∧ (∀ p, p = o + 0 → c p 2 = o + 2) ∧ (∀ p, p = o + 0 → c p 4 = o + 3) ∧ (∀ p, p = o + 0 → c p 5 = o + 4) ∧ (∀ p, p = o + 0 → c p 7 = o + 5) ∧ (∀ p, p = o + 0 → c p 14 = o + 6) ∧ (∀ p, p = o + 0 → c p 20 = o + 7) ∧ (∀ p, p = o + 0 → c p 21 = o + 8) ∧ (∀ p, p = o + 0 → c p 22 = o + 9) ∧ (∀ p, p = o + 0 → c p 23 = o + 10) ∧ (∀ p, p = o + 0 → c p 24 = o + 11) ∧ (∀ p, p = o + 0 → c p 12 = -1) ∧ (∀ p j, p = o + 5 → c p j = 0) ∧ (∀ p j, p = o + 6 → c p j = 0) ∧ (∀ p j, p = o + 1 → c p j = qM00 j) ∧ (∀ p, p = o → c p 3 = C p 3) ∧ (∀ p, p = o → c p 6 = C p 6) ∧ (∀ p, p = o → c p 8 = C p 8) ∧ (∀ p, p = o → c p 15 = C p 15) ∧ (∀ p, p = o → c p 16 = C p 16) ∧ (∀ p, p = o → c p 18 = C p 18) ∧ (∀ p, p = o → c p 19 = C p 19) ∧ (True)
theorem NwX12a.bl {lay l : zLay} {C c : zMem} {o : Int} (h : NwX12a lay l C c o) : ∀ p, p < o → l p = lay p := h.1
theorem NwX12a.bc {lay l : zLay} {C c : zMem} {o : Int} (h : NwX12a lay l C c o) : ∀ p, p < o → c p = C p := h.2.1
theorem NwX12a.l0 {lay l : zLay} {C c : zMem} {o : Int} (h : NwX12a lay l C c o) : ∀ p, p = o + 0 → l p = (13, 26) := h.2.2.1
theorem NwX12a.l1 {lay l : zLay} {C c : zMem} {o : Int} (h : NwX12a lay l C c o) : ∀ p, p = o + 1 → l p = (100, 826) := h.2.2.2.1
theorem NwX12a.l2 {lay l : zLay} {C c : zMem} {o : Int} (h : NwX12a lay l C c o) : ∀ p, p = o + 2 → l p = (100, 826) := h.2.2.2.2.1
theorem NwX12a.l3 {lay l : zLay} {C c : zMem} {o : Int} (h : NwX12a lay l C c o) : ∀ p, p = o + 3 → l p = (100, 426) := h.2.2.2.2.2.1
theorem NwX12a.l4 {lay l : zLay} {C c : zMem} {o : Int} (h : NwX12a lay l C c o) : ∀ p, p = o + 4 → l p = (100, 5112) := h.2.2.2.2.2.2.1
theorem NwX12a.l5 {lay l : zLay} {C c : zMem} {o : Int} (h : NwX12a lay l C c o) : ∀ p, p = o + 5 → l p = (100, 400) := h.2.2.2.2.2.2.2.1
theorem NwX12a.l6 {lay l : zLay} {C c : zMem} {o : Int} (h : NwX12a lay l C c o) : ∀ p, p = o + 6 → l p = (100, 7) := h.2.2.2.2.2.2.2.2.1
theorem NwX12a.l7 {lay l : zLay} {C c : zMem} {o : Int} (h : NwX12a lay l C c o) : ∀ p, p = o + 7 → l p = (100, 5) := h.2.2.2.2.2.2.2.2.2.1
theorem NwX12a.l8 {lay l : zLay} {C c : zMem} {o : Int} (h : NwX12a lay l C c o) : ∀ p, p = o + 8 → l p = (100, 5) := h.2.2.2.2.2.2.2.2.2.2.1
theorem NwX12a.l9 {lay l : zLay} {C c : zMem} {o : Int} (h : NwX12a lay l C c o) : ∀ p, p = o + 9 → l p = (101, 5) := h.2.2.2.2.2.2.2.2.2.2.2.1
theorem NwX12a.l10 {lay l : zLay} {C c : zMem} {o : Int} (h : NwX12a lay l C c o) : ∀ p, p = o + 10 → l p = (101, 5) := h.2.2.2.2.2.2.2.2.2.2.2.2.1
theorem NwX12a.l11 {lay l : zLay} {C c : zMem} {o : Int} (h : NwX12a lay l C c o) : ∀ p, p = o + 11 → l p = (100, 3328) := h.2.2.2.2.2.2.2.2.2.2.2.2.2.1
theorem NwX12a.r0_1 {lay l : zLay} {C c : zMem} {o : Int} (h : NwX12a lay l C c o) : ∀ p, p = o + 0 → c p 1 = o + 1 := h.2.2.2.2.2.2.2.2.2.2.2.2.2.2.1
theorem NwX12a.r0_2 {lay l : zLay} {C c : zMem} {o : Int} (h : NwX12a lay l C c o) : ∀ p, p = o + 0 → c p 2 = o + 2 := h.2.2.2.2.2.2.2.2.2.2.2.2.2.2.2.1
theorem NwX12a.r0_4 {lay l : zLay} {C c : zMem} {o : Int} (h : NwX12a lay l C c o) : ∀ p, p = o + 0 → c p 4 = o + 3 := h.2.2.2.2.2.2.2.2.2.2.2.2.2.2.2.2.1
theorem NwX12a.r0_5 {lay l : zLay} {C c : zMem} {o : Int} (h : NwX12a lay l C c o) : ∀ p, p = o + 0 → c p 5 = o + 4 := h.2.2.2.2.2.2.2.2.2.2.2.2.2.2.2.2.2.1
theorem NwX12a.r0_7 {lay l : zLay} {C c : zMem} {o : Int} (h : NwX12a lay l C c o) : ∀ p, p = o + 0 → c p 7 = o + 5 := h.2.2.2.2.2.2.2.2.2.2.2.2.2.2.2.2.2.2.1
theorem NwX12a.r0_14 {lay l : zLay} {C c : zMem} {o : Int} (h : NwX12a lay l C c o) : ∀ p, p = o + 0 → c p 14 = o + 6 := h.2.2.2.2.2.2.2.2.2.2.2.2.2.2.2.2.2.2.2.1
theorem NwX12a.r0_20 {lay l : zLay} {C c : zMem} {o : Int} (h : NwX12a lay l C c o) : ∀ p, p = o + 0 → c p 20 = o + 7 := h.2.2.2.2.2.2.2.2.2.2.2.2.2.2.2.2.2.2.2.2.1
theorem NwX12a.r0_21 {lay l : zLay} {C c : zMem} {o : Int} (h : NwX12a lay l C c o) : ∀ p, p = o + 0 → c p 21 = o + 8 := h.2.2.2.2.2.2.2.2.2.2.2.2.2.2.2.2.2.2.2.2.2.1
theorem NwX12a.r0_22 {lay l : zLay} {C c : zMem} {o : Int} (h : NwX12a lay l C c o) : ∀ p, p = o + 0 → c p 22 = o + 9 := h.2.2.2.2.2.2.2.2.2.2.2.2.2.2.2.2.2.2.2.2.2.2.1
theorem NwX12a.r0_23 {lay l : zLay} {C c : zMem} {o : Int} (h : NwX12a lay l C c o) : ∀ p, p = o + 0 → c p 23 = o + 10 := h.2.2.2.2.2.2.2.2.2.2.2.2.2.2.2.2.2.2.2.2.2.2.2.1
theorem NwX12a.r0_24 {lay l : zLay} {C c : zMem} {o : Int} (h : NwX12a lay l C c o) : ∀ p, p = o + 0 → c p 24 = o + 11 := h.2.2.2.2.2.2.2.2.2.2.2.2.2.2.2.2.2.2.2.2.2.2.2.2.1
theorem NwX12a.v0_12 {lay l : zLay} {C c : zMem} {o : Int} (h : NwX12a lay l C c o) : ∀ p, p = o + 0 → c p 12 = -1 := h.2.2.2.2.2.2.2.2.2.2.2.2.2.2.2.2.2.2.2.2.2.2.2.2.2.1
theorem NwX12a.y5 {lay l : zLay} {C c : zMem} {o : Int} (h : NwX12a lay l C c o) : ∀ p j, p = o + 5 → c p j = 0 := h.2.2.2.2.2.2.2.2.2.2.2.2.2.2.2.2.2.2.2.2.2.2.2.2.2.2.1
theorem NwX12a.y6 {lay l : zLay} {C c : zMem} {o : Int} (h : NwX12a lay l C c o) : ∀ p j, p = o + 6 → c p j = 0 := h.2.2.2.2.2.2.2.2.2.2.2.2.2.2.2.2.2.2.2.2.2.2.2.2.2.2.2.1
theorem NwX12a.f1 {lay l : zLay} {C c : zMem} {o : Int} (h : NwX12a lay l C c o) : ∀ p j, p = o + 1 → c p j = qM00 j := h.2.2.2.2.2.2.2.2.2.2.2.2.2.2.2.2.2.2.2.2.2.2.2.2.2.2.2.2.1
theorem NwX12a.d3 {lay l : zLay} {C c : zMem} {o : Int} (h : NwX12a lay l C c o) : ∀ p, p = o → c p 3 = C p 3 := h.2.2.2.2.2.2.2.2.2.2.2.2.2.2.2.2.2.2.2.2.2.2.2.2.2.2.2.2.2.1
theorem NwX12a.d6 {lay l : zLay} {C c : zMem} {o : Int} (h : NwX12a lay l C c o) : ∀ p, p = o → c p 6 = C p 6 := h.2.2.2.2.2.2.2.2.2.2.2.2.2.2.2.2.2.2.2.2.2.2.2.2.2.2.2.2.2.2.1
theorem NwX12a.d8 {lay l : zLay} {C c : zMem} {o : Int} (h : NwX12a lay l C c o) : ∀ p, p = o → c p 8 = C p 8 := h.2.2.2.2.2.2.2.2.2.2.2.2.2.2.2.2.2.2.2.2.2.2.2.2.2.2.2.2.2.2.2.1
theorem NwX12a.d15 {lay l : zLay} {C c : zMem} {o : Int} (h : NwX12a lay l C c o) : ∀ p, p = o → c p 15 = C p 15 := h.2.2.2.2.2.2.2.2.2.2.2.2.2.2.2.2.2.2.2.2.2.2.2.2.2.2.2.2.2.2.2.2.1
theorem NwX12a.d16 {lay l : zLay} {C c : zMem} {o : Int} (h : NwX12a lay l C c o) : ∀ p, p = o → c p 16 = C p 16 := h.2.2.2.2.2.2.2.2.2.2.2.2.2.2.2.2.2.2.2.2.2.2.2.2.2.2.2.2.2.2.2.2.2.1
theorem NwX12a.d18 {lay l : zLay} {C c : zMem} {o : Int} (h : NwX12a lay l C c o) : ∀ p, p = o → c p 18 = C p 18 := h.2.2.2.2.2.2.2.2.2.2.2.2.2.2.2.2.2.2.2.2.2.2.2.2.2.2.2.2.2.2.2.2.2.2.1
theorem NwX12a.d19 {lay l : zLay} {C c : zMem} {o : Int} (h : NwX12a lay l C c o) : ∀ p, p = o → c p 19 = C p 19 := h.2.2.2.2.2.2.2.2.2.2.2.2.2.2.2.2.2.2.2.2.2.2.2.2.2.2.2.2.2.2.2.2.2.2.2.1
theorem NwX12a.z {lay l : zLay} {C c : zMem} {o : Int} (h : NwX12a lay l C c o) : True := h.2.2.2.2.2.2.2.2.2.2.2.2.2.2.2.2.2.2.2.2.2.2.2.2.2.2.2.2.2.2.2.2.2.2.2.2
theorem n_X12a {G : zG} {Q : zQ} {lay : zLay} {C : zMem} {o : Int} (ho : lay o = (13, 26)) (h0 : 0 ≤ o) (w : ∀ l c, NwX12a lay l C c o → zW G KX12_init 6 Q 145 [zP o, zU] [] l c (o + 12) (0, 0)) : zW G KX12_init 6 Q 0 [zP o, zU] [] lay C (o + 1) (11, 10945) := by
  have hne : o ≠ -1 := by omega
  have ho' : ∀ p, p = o + 0 → lay p = (13, 26) := fun p hp => by rw [hp, Int.add_zero]; exact ho
  have hnm : KX12_init.1.name = "<init>" ∧ (vwCl[12]?).map (·.1) = some RX12 := ⟨rfl, rfl⟩
  refine z_al0 eX12_init_0 hne ?_
  refine z_objInit eX12_init_1 oX12_1 hne (Nat.le_of_ble_eq_true rfl) (Nat.le_of_ble_eq_true rfl) ?_
  refine z_al0 eX12_init_4 hne ?_
  refine z_sipush eX12_init_5 (by decide) ?_
  refine zW.mono (b' := (10 + 1, 10119 + (826 : Int).toNat)) ⟨by decide, by decide⟩ ?_
  refine z_newi eX12_init_8 w_ai ⟨by decide, by decide⟩ ?_
  refine z_pfP (j := 1) lX12_7 eX12_init_10 rfl rfl ((zlay_o (by omega)).trans (ho' _ (by omega))) rfl hnm ?_
  refine z_al0 eX12_init_13 hne ?_
  refine z_sipush eX12_init_14 (by decide) ?_
  refine zW.mono (b' := (9 + 1, 9293 + (826 : Int).toNat)) ⟨by decide, by decide⟩ ?_
  refine z_newi eX12_init_17 w_ai ⟨by decide, by decide⟩ ?_
  refine z_pfP (j := 2) lX12_13 eX12_init_19 rfl rfl ((zlay_o (by omega)).trans ((zlay_o (by omega)).trans (ho' _ (by omega)))) rfl hnm ?_
  refine z_al0 eX12_init_22 hne ?_
  refine z_sipush eX12_init_23 (by decide) ?_
  refine zW.mono (b' := (8 + 1, 8867 + (426 : Int).toNat)) ⟨by decide, by decide⟩ ?_
  refine z_newi eX12_init_26 w_ai ⟨by decide, by decide⟩ ?_
  refine z_pfP (j := 4) lX12_16 eX12_init_28 rfl rfl ((zlay_o (by omega)).trans ((zlay_o (by omega)).trans ((zlay_o (by omega)).trans (ho' _ (by omega))))) rfl hnm ?_
  refine z_al0 eX12_init_31 hne ?_
  refine z_sipush eX12_init_32 (by decide) ?_
  refine zW.mono (b' := (7 + 1, 3755 + (5112 : Int).toNat)) ⟨by decide, by decide⟩ ?_
  refine z_newi eX12_init_35 w_ai ⟨by decide, by decide⟩ ?_
  refine z_pfP (j := 5) lX12_19 eX12_init_37 rfl rfl ((zlay_o (by omega)).trans ((zlay_o (by omega)).trans ((zlay_o (by omega)).trans ((zlay_o (by omega)).trans (ho' _ (by omega)))))) rfl hnm ?_
  refine z_al0 eX12_init_40 hne ?_
  refine z_sipush eX12_init_41 (by decide) ?_
  refine zW.mono (b' := (6 + 1, 3355 + (400 : Int).toNat)) ⟨by decide, by decide⟩ ?_
  refine z_newi eX12_init_44 w_ai ⟨by decide, by decide⟩ ?_
  refine z_pfP (j := 7) lX12_22 eX12_init_46 rfl rfl ((zlay_o (by omega)).trans ((zlay_o (by omega)).trans ((zlay_o (by omega)).trans ((zlay_o (by omega)).trans ((zlay_o (by omega)).trans (ho' _ (by omega))))))) rfl hnm ?_
  refine z_al0 eX12_init_49 hne ?_
  refine z_iconst eX12_init_50 ?_
  refine z_pfI (j := 12) lX12_25 eX12_init_51 rfl ((zlay_o (by omega)).trans ((zlay_o (by omega)).trans ((zlay_o (by omega)).trans ((zlay_o (by omega)).trans ((zlay_o (by omega)).trans (ho' _ (by omega))))))) rfl hnm ?_
  refine z_al0 eX12_init_54 hne ?_
  refine z_bipush eX12_init_55 (by decide) ?_
  refine zW.mono (b' := (5 + 1, 3348 + (7 : Int).toNat)) ⟨by decide, by decide⟩ ?_
  refine z_newi eX12_init_57 w_ai ⟨by decide, by decide⟩ ?_
  refine z_pfP (j := 14) lX12_29 eX12_init_59 rfl rfl ((zlay_o (by omega)).trans ((zlay_o (by omega)).trans ((zlay_o (by omega)).trans ((zlay_o (by omega)).trans ((zlay_o (by omega)).trans ((zlay_o (by omega)).trans (ho' _ (by omega)))))))) rfl hnm ?_
  refine z_al0 eX12_init_62 hne ?_
  refine z_iconst eX12_init_63 ?_
  refine zW.mono (b' := (4 + 1, 3343 + (5 : Int).toNat)) ⟨by decide, by decide⟩ ?_
  refine z_newi eX12_init_64 w_ai ⟨by decide, by decide⟩ ?_
  refine z_pfP (j := 20) lX12_32 eX12_init_66 rfl rfl ((zlay_o (by omega)).trans ((zlay_o (by omega)).trans ((zlay_o (by omega)).trans ((zlay_o (by omega)).trans ((zlay_o (by omega)).trans ((zlay_o (by omega)).trans ((zlay_o (by omega)).trans (ho' _ (by omega))))))))) rfl hnm ?_
  refine z_al0 eX12_init_69 hne ?_
  refine z_iconst eX12_init_70 ?_
  refine zW.mono (b' := (3 + 1, 3338 + (5 : Int).toNat)) ⟨by decide, by decide⟩ ?_
  refine z_newi eX12_init_71 w_ai ⟨by decide, by decide⟩ ?_
  refine z_pfP (j := 21) lX12_35 eX12_init_73 rfl rfl ((zlay_o (by omega)).trans ((zlay_o (by omega)).trans ((zlay_o (by omega)).trans ((zlay_o (by omega)).trans ((zlay_o (by omega)).trans ((zlay_o (by omega)).trans ((zlay_o (by omega)).trans ((zlay_o (by omega)).trans (ho' _ (by omega)))))))))) rfl hnm ?_
  refine z_al0 eX12_init_76 hne ?_
  refine z_iconst eX12_init_77 ?_
  refine zW.mono (b' := (2 + 1, 3333 + (5 : Int).toNat)) ⟨by decide, by decide⟩ ?_
  refine z_newl eX12_init_78 w_al ⟨by decide, by decide⟩ ?_
  refine z_pfP (j := 22) lX12_38 eX12_init_80 rfl rfl ((zlay_o (by omega)).trans ((zlay_o (by omega)).trans ((zlay_o (by omega)).trans ((zlay_o (by omega)).trans ((zlay_o (by omega)).trans ((zlay_o (by omega)).trans ((zlay_o (by omega)).trans ((zlay_o (by omega)).trans ((zlay_o (by omega)).trans (ho' _ (by omega))))))))))) rfl hnm ?_
  refine z_al0 eX12_init_83 hne ?_
  refine z_iconst eX12_init_84 ?_
  refine zW.mono (b' := (1 + 1, 3328 + (5 : Int).toNat)) ⟨by decide, by decide⟩ ?_
  refine z_newl eX12_init_85 w_al ⟨by decide, by decide⟩ ?_
  refine z_pfP (j := 23) lX12_42 eX12_init_87 rfl rfl ((zlay_o (by omega)).trans ((zlay_o (by omega)).trans ((zlay_o (by omega)).trans ((zlay_o (by omega)).trans ((zlay_o (by omega)).trans ((zlay_o (by omega)).trans ((zlay_o (by omega)).trans ((zlay_o (by omega)).trans ((zlay_o (by omega)).trans ((zlay_o (by omega)).trans (ho' _ (by omega)))))))))))) rfl hnm ?_
  refine z_al0 eX12_init_90 hne ?_
  refine z_sipush eX12_init_91 (by decide) ?_
  refine zW.mono (b' := (0 + 1, 0 + (3328 : Int).toNat)) ⟨by decide, by decide⟩ ?_
  refine z_newi eX12_init_94 w_ai ⟨by decide, by decide⟩ ?_
  refine z_pfP (j := 24) lX12_45 eX12_init_96 rfl rfl ((zlay_o (by omega)).trans ((zlay_o (by omega)).trans ((zlay_o (by omega)).trans ((zlay_o (by omega)).trans ((zlay_o (by omega)).trans ((zlay_o (by omega)).trans ((zlay_o (by omega)).trans ((zlay_o (by omega)).trans ((zlay_o (by omega)).trans ((zlay_o (by omega)).trans ((zlay_o (by omega)).trans (ho' _ (by omega))))))))))))) rfl hnm ?_
  refine z_al0 eX12_init_99 hne ?_
  refine z_gfP (v := o + 1) lX12_7 eX12_init_100 rfl ((zlay_o (by omega)).trans ((zlay_o (by omega)).trans ((zlay_o (by omega)).trans ((zlay_o (by omega)).trans ((zlay_o (by omega)).trans ((zlay_o (by omega)).trans ((zlay_o (by omega)).trans ((zlay_o (by omega)).trans ((zlay_o (by omega)).trans ((zlay_o (by omega)).trans ((zlay_o (by omega)).trans (ho' _ (by omega))))))))))))) ((zset_n (Or.inr (by decide))).trans ((zzero_n (by omega)).trans ((zset_n (Or.inr (by decide))).trans ((zzero_n (by omega)).trans ((zset_n (Or.inr (by decide))).trans ((zzero_n (by omega)).trans ((zset_n (Or.inr (by decide))).trans ((zzero_n (by omega)).trans ((zset_n (Or.inr (by decide))).trans ((zzero_n (by omega)).trans ((zset_n (Or.inr (by decide))).trans ((zzero_n (by omega)).trans ((zset_n (Or.inr (by decide))).trans ((zset_n (Or.inr (by decide))).trans ((zzero_n (by omega)).trans ((zset_n (Or.inr (by decide))).trans ((zzero_n (by omega)).trans ((zset_n (Or.inr (by decide))).trans ((zzero_n (by omega)).trans ((zset_n (Or.inr (by decide))).trans ((zzero_n (by omega)).trans ((zset_s' (by omega)).trans (by omega))))))))))))))))))))))) ?_
  refine z_iconst eX12_init_103 ?_
  refine z_iconst eX12_init_104 ?_
  refine z_iastore eX12_init_105 ((zlay_o (by omega)).trans ((zlay_o (by omega)).trans ((zlay_o (by omega)).trans ((zlay_o (by omega)).trans ((zlay_o (by omega)).trans ((zlay_o (by omega)).trans ((zlay_o (by omega)).trans ((zlay_o (by omega)).trans ((zlay_o (by omega)).trans ((zlay_o (by omega)).trans (zlay_s' (by omega)))))))))))) ⟨by decide, by decide⟩ ?_
  refine z_al0 eX12_init_106 hne ?_
  refine z_gfP (v := o + 1) lX12_7 eX12_init_107 rfl ((zlay_o (by omega)).trans ((zlay_o (by omega)).trans ((zlay_o (by omega)).trans ((zlay_o (by omega)).trans ((zlay_o (by omega)).trans ((zlay_o (by omega)).trans ((zlay_o (by omega)).trans ((zlay_o (by omega)).trans ((zlay_o (by omega)).trans ((zlay_o (by omega)).trans ((zlay_o (by omega)).trans (ho' _ (by omega))))))))))))) ((zset_n (Or.inl (by omega))).trans ((zset_n (Or.inr (by decide))).trans ((zzero_n (by omega)).trans ((zset_n (Or.inr (by decide))).trans ((zzero_n (by omega)).trans ((zset_n (Or.inr (by decide))).trans ((zzero_n (by omega)).trans ((zset_n (Or.inr (by decide))).trans ((zzero_n (by omega)).trans ((zset_n (Or.inr (by decide))).trans ((zzero_n (by omega)).trans ((zset_n (Or.inr (by decide))).trans ((zzero_n (by omega)).trans ((zset_n (Or.inr (by decide))).trans ((zset_n (Or.inr (by decide))).trans ((zzero_n (by omega)).trans ((zset_n (Or.inr (by decide))).trans ((zzero_n (by omega)).trans ((zset_n (Or.inr (by decide))).trans ((zzero_n (by omega)).trans ((zset_n (Or.inr (by decide))).trans ((zzero_n (by omega)).trans ((zset_s' (by omega)).trans (by omega)))))))))))))))))))))))) ?_
  refine z_iconst eX12_init_110 ?_
  refine z_iconst eX12_init_111 ?_
  refine z_iastore eX12_init_112 ((zlay_o (by omega)).trans ((zlay_o (by omega)).trans ((zlay_o (by omega)).trans ((zlay_o (by omega)).trans ((zlay_o (by omega)).trans ((zlay_o (by omega)).trans ((zlay_o (by omega)).trans ((zlay_o (by omega)).trans ((zlay_o (by omega)).trans ((zlay_o (by omega)).trans (zlay_s' (by omega)))))))))))) ⟨by decide, by decide⟩ ?_
  refine z_al0 eX12_init_113 hne ?_
  refine z_gfP (v := o + 1) lX12_7 eX12_init_114 rfl ((zlay_o (by omega)).trans ((zlay_o (by omega)).trans ((zlay_o (by omega)).trans ((zlay_o (by omega)).trans ((zlay_o (by omega)).trans ((zlay_o (by omega)).trans ((zlay_o (by omega)).trans ((zlay_o (by omega)).trans ((zlay_o (by omega)).trans ((zlay_o (by omega)).trans ((zlay_o (by omega)).trans (ho' _ (by omega))))))))))))) ((zset_n (Or.inl (by omega))).trans ((zset_n (Or.inl (by omega))).trans ((zset_n (Or.inr (by decide))).trans ((zzero_n (by omega)).trans ((zset_n (Or.inr (by decide))).trans ((zzero_n (by omega)).trans ((zset_n (Or.inr (by decide))).trans ((zzero_n (by omega)).trans ((zset_n (Or.inr (by decide))).trans ((zzero_n (by omega)).trans ((zset_n (Or.inr (by decide))).trans ((zzero_n (by omega)).trans ((zset_n (Or.inr (by decide))).trans ((zzero_n (by omega)).trans ((zset_n (Or.inr (by decide))).trans ((zset_n (Or.inr (by decide))).trans ((zzero_n (by omega)).trans ((zset_n (Or.inr (by decide))).trans ((zzero_n (by omega)).trans ((zset_n (Or.inr (by decide))).trans ((zzero_n (by omega)).trans ((zset_n (Or.inr (by decide))).trans ((zzero_n (by omega)).trans ((zset_s' (by omega)).trans (by omega))))))))))))))))))))))))) ?_
  refine z_bipush eX12_init_117 (by decide) ?_
  refine z_iconst eX12_init_119 ?_
  refine z_iastore eX12_init_120 ((zlay_o (by omega)).trans ((zlay_o (by omega)).trans ((zlay_o (by omega)).trans ((zlay_o (by omega)).trans ((zlay_o (by omega)).trans ((zlay_o (by omega)).trans ((zlay_o (by omega)).trans ((zlay_o (by omega)).trans ((zlay_o (by omega)).trans ((zlay_o (by omega)).trans (zlay_s' (by omega)))))))))))) ⟨by decide, by decide⟩ ?_
  refine z_al0 eX12_init_121 hne ?_
  refine z_gfP (v := o + 1) lX12_7 eX12_init_122 rfl ((zlay_o (by omega)).trans ((zlay_o (by omega)).trans ((zlay_o (by omega)).trans ((zlay_o (by omega)).trans ((zlay_o (by omega)).trans ((zlay_o (by omega)).trans ((zlay_o (by omega)).trans ((zlay_o (by omega)).trans ((zlay_o (by omega)).trans ((zlay_o (by omega)).trans ((zlay_o (by omega)).trans (ho' _ (by omega))))))))))))) ((zset_n (Or.inl (by omega))).trans ((zset_n (Or.inl (by omega))).trans ((zset_n (Or.inl (by omega))).trans ((zset_n (Or.inr (by decide))).trans ((zzero_n (by omega)).trans ((zset_n (Or.inr (by decide))).trans ((zzero_n (by omega)).trans ((zset_n (Or.inr (by decide))).trans ((zzero_n (by omega)).trans ((zset_n (Or.inr (by decide))).trans ((zzero_n (by omega)).trans ((zset_n (Or.inr (by decide))).trans ((zzero_n (by omega)).trans ((zset_n (Or.inr (by decide))).trans ((zzero_n (by omega)).trans ((zset_n (Or.inr (by decide))).trans ((zset_n (Or.inr (by decide))).trans ((zzero_n (by omega)).trans ((zset_n (Or.inr (by decide))).trans ((zzero_n (by omega)).trans ((zset_n (Or.inr (by decide))).trans ((zzero_n (by omega)).trans ((zset_n (Or.inr (by decide))).trans ((zzero_n (by omega)).trans ((zset_s' (by omega)).trans (by omega)))))))))))))))))))))))))) ?_
  refine z_bipush eX12_init_125 (by decide) ?_
  refine z_iconst eX12_init_127 ?_
  refine z_iastore eX12_init_128 ((zlay_o (by omega)).trans ((zlay_o (by omega)).trans ((zlay_o (by omega)).trans ((zlay_o (by omega)).trans ((zlay_o (by omega)).trans ((zlay_o (by omega)).trans ((zlay_o (by omega)).trans ((zlay_o (by omega)).trans ((zlay_o (by omega)).trans ((zlay_o (by omega)).trans (zlay_s' (by omega)))))))))))) ⟨by decide, by decide⟩ ?_
  refine z_al0 eX12_init_129 hne ?_
  refine z_gfP (v := o + 1) lX12_7 eX12_init_130 rfl ((zlay_o (by omega)).trans ((zlay_o (by omega)).trans ((zlay_o (by omega)).trans ((zlay_o (by omega)).trans ((zlay_o (by omega)).trans ((zlay_o (by omega)).trans ((zlay_o (by omega)).trans ((zlay_o (by omega)).trans ((zlay_o (by omega)).trans ((zlay_o (by omega)).trans ((zlay_o (by omega)).trans (ho' _ (by omega))))))))))))) ((zset_n (Or.inl (by omega))).trans ((zset_n (Or.inl (by omega))).trans ((zset_n (Or.inl (by omega))).trans ((zset_n (Or.inl (by omega))).trans ((zset_n (Or.inr (by decide))).trans ((zzero_n (by omega)).trans ((zset_n (Or.inr (by decide))).trans ((zzero_n (by omega)).trans ((zset_n (Or.inr (by decide))).trans ((zzero_n (by omega)).trans ((zset_n (Or.inr (by decide))).trans ((zzero_n (by omega)).trans ((zset_n (Or.inr (by decide))).trans ((zzero_n (by omega)).trans ((zset_n (Or.inr (by decide))).trans ((zzero_n (by omega)).trans ((zset_n (Or.inr (by decide))).trans ((zset_n (Or.inr (by decide))).trans ((zzero_n (by omega)).trans ((zset_n (Or.inr (by decide))).trans ((zzero_n (by omega)).trans ((zset_n (Or.inr (by decide))).trans ((zzero_n (by omega)).trans ((zset_n (Or.inr (by decide))).trans ((zzero_n (by omega)).trans ((zset_s' (by omega)).trans (by omega))))))))))))))))))))))))))) ?_
  refine z_bipush eX12_init_133 (by decide) ?_
  refine z_iconst eX12_init_135 ?_
  refine z_iastore eX12_init_136 ((zlay_o (by omega)).trans ((zlay_o (by omega)).trans ((zlay_o (by omega)).trans ((zlay_o (by omega)).trans ((zlay_o (by omega)).trans ((zlay_o (by omega)).trans ((zlay_o (by omega)).trans ((zlay_o (by omega)).trans ((zlay_o (by omega)).trans ((zlay_o (by omega)).trans (zlay_s' (by omega)))))))))))) ⟨by decide, by decide⟩ ?_
  refine z_al0 eX12_init_137 hne ?_
  refine z_gfP (v := o + 1) lX12_7 eX12_init_138 rfl ((zlay_o (by omega)).trans ((zlay_o (by omega)).trans ((zlay_o (by omega)).trans ((zlay_o (by omega)).trans ((zlay_o (by omega)).trans ((zlay_o (by omega)).trans ((zlay_o (by omega)).trans ((zlay_o (by omega)).trans ((zlay_o (by omega)).trans ((zlay_o (by omega)).trans ((zlay_o (by omega)).trans (ho' _ (by omega))))))))))))) ((zset_n (Or.inl (by omega))).trans ((zset_n (Or.inl (by omega))).trans ((zset_n (Or.inl (by omega))).trans ((zset_n (Or.inl (by omega))).trans ((zset_n (Or.inl (by omega))).trans ((zset_n (Or.inr (by decide))).trans ((zzero_n (by omega)).trans ((zset_n (Or.inr (by decide))).trans ((zzero_n (by omega)).trans ((zset_n (Or.inr (by decide))).trans ((zzero_n (by omega)).trans ((zset_n (Or.inr (by decide))).trans ((zzero_n (by omega)).trans ((zset_n (Or.inr (by decide))).trans ((zzero_n (by omega)).trans ((zset_n (Or.inr (by decide))).trans ((zzero_n (by omega)).trans ((zset_n (Or.inr (by decide))).trans ((zset_n (Or.inr (by decide))).trans ((zzero_n (by omega)).trans ((zset_n (Or.inr (by decide))).trans ((zzero_n (by omega)).trans ((zset_n (Or.inr (by decide))).trans ((zzero_n (by omega)).trans ((zset_n (Or.inr (by decide))).trans ((zzero_n (by omega)).trans ((zset_s' (by omega)).trans (by omega)))))))))))))))))))))))))))) ?_
  refine z_bipush eX12_init_141 (by decide) ?_
  refine z_iconst eX12_init_143 ?_
  refine z_iastore eX12_init_144 ((zlay_o (by omega)).trans ((zlay_o (by omega)).trans ((zlay_o (by omega)).trans ((zlay_o (by omega)).trans ((zlay_o (by omega)).trans ((zlay_o (by omega)).trans ((zlay_o (by omega)).trans ((zlay_o (by omega)).trans ((zlay_o (by omega)).trans ((zlay_o (by omega)).trans (zlay_s' (by omega)))))))))))) ⟨by decide, by decide⟩ ?_
  rw [show o + 1 + 1 + 1 + 1 + 1 + 1 + 1 + 1 + 1 + 1 + 1 + 1 = o + 12 by omega]
  exact w _ _ ⟨fun p hp => (zlay_o (by omega)).trans ((zlay_o (by omega)).trans ((zlay_o (by omega)).trans ((zlay_o (by omega)).trans ((zlay_o (by omega)).trans ((zlay_o (by omega)).trans ((zlay_o (by omega)).trans ((zlay_o (by omega)).trans ((zlay_o (by omega)).trans ((zlay_o (by omega)).trans ((zlay_o (by omega)).trans (rfl))))))))))),
    fun p hp => (zset_o (by omega)).trans ((zset_o (by omega)).trans ((zset_o (by omega)).trans ((zset_o (by omega)).trans ((zset_o (by omega)).trans ((zset_o (by omega)).trans ((zset_o (by omega)).trans ((zzero_o (by omega)).trans ((zset_o (by omega)).trans ((zzero_o (by omega)).trans ((zset_o (by omega)).trans ((zzero_o (by omega)).trans ((zset_o (by omega)).trans ((zzero_o (by omega)).trans ((zset_o (by omega)).trans ((zzero_o (by omega)).trans ((zset_o (by omega)).trans ((zzero_o (by omega)).trans ((zset_o (by omega)).trans ((zset_o (by omega)).trans ((zzero_o (by omega)).trans ((zset_o (by omega)).trans ((zzero_o (by omega)).trans ((zset_o (by omega)).trans ((zzero_o (by omega)).trans ((zset_o (by omega)).trans ((zzero_o (by omega)).trans ((zset_o (by omega)).trans ((zzero_o (by omega)).trans (rfl))))))))))))))))))))))))))))),
    fun p hp => (zlay_o (by omega)).trans ((zlay_o (by omega)).trans ((zlay_o (by omega)).trans ((zlay_o (by omega)).trans ((zlay_o (by omega)).trans ((zlay_o (by omega)).trans ((zlay_o (by omega)).trans ((zlay_o (by omega)).trans ((zlay_o (by omega)).trans ((zlay_o (by omega)).trans ((zlay_o (by omega)).trans (ho' _ (by omega)))))))))))),
    fun p hp => (zlay_o (by omega)).trans ((zlay_o (by omega)).trans ((zlay_o (by omega)).trans ((zlay_o (by omega)).trans ((zlay_o (by omega)).trans ((zlay_o (by omega)).trans ((zlay_o (by omega)).trans ((zlay_o (by omega)).trans ((zlay_o (by omega)).trans ((zlay_o (by omega)).trans (zlay_s' (by omega))))))))))),
    fun p hp => (zlay_o (by omega)).trans ((zlay_o (by omega)).trans ((zlay_o (by omega)).trans ((zlay_o (by omega)).trans ((zlay_o (by omega)).trans ((zlay_o (by omega)).trans ((zlay_o (by omega)).trans ((zlay_o (by omega)).trans ((zlay_o (by omega)).trans (zlay_s' (by omega)))))))))),
    fun p hp => (zlay_o (by omega)).trans ((zlay_o (by omega)).trans ((zlay_o (by omega)).trans ((zlay_o (by omega)).trans ((zlay_o (by omega)).trans ((zlay_o (by omega)).trans ((zlay_o (by omega)).trans ((zlay_o (by omega)).trans (zlay_s' (by omega))))))))),
    fun p hp => (zlay_o (by omega)).trans ((zlay_o (by omega)).trans ((zlay_o (by omega)).trans ((zlay_o (by omega)).trans ((zlay_o (by omega)).trans ((zlay_o (by omega)).trans ((zlay_o (by omega)).trans (zlay_s' (by omega)))))))),
    fun p hp => (zlay_o (by omega)).trans ((zlay_o (by omega)).trans ((zlay_o (by omega)).trans ((zlay_o (by omega)).trans ((zlay_o (by omega)).trans ((zlay_o (by omega)).trans (zlay_s' (by omega))))))),
    fun p hp => (zlay_o (by omega)).trans ((zlay_o (by omega)).trans ((zlay_o (by omega)).trans ((zlay_o (by omega)).trans ((zlay_o (by omega)).trans (zlay_s' (by omega)))))),
    fun p hp => (zlay_o (by omega)).trans ((zlay_o (by omega)).trans ((zlay_o (by omega)).trans ((zlay_o (by omega)).trans (zlay_s' (by omega))))),
    fun p hp => (zlay_o (by omega)).trans ((zlay_o (by omega)).trans ((zlay_o (by omega)).trans (zlay_s' (by omega)))),
    fun p hp => (zlay_o (by omega)).trans ((zlay_o (by omega)).trans (zlay_s' (by omega))),
    fun p hp => (zlay_o (by omega)).trans (zlay_s' (by omega)),
    fun p hp => zlay_s' (by omega),
    fun p hp => (zset_n (Or.inl (by omega))).trans ((zset_n (Or.inl (by omega))).trans ((zset_n (Or.inl (by omega))).trans ((zset_n (Or.inl (by omega))).trans ((zset_n (Or.inl (by omega))).trans ((zset_n (Or.inl (by omega))).trans ((zset_n (Or.inr (by decide))).trans ((zzero_n (by omega)).trans ((zset_n (Or.inr (by decide))).trans ((zzero_n (by omega)).trans ((zset_n (Or.inr (by decide))).trans ((zzero_n (by omega)).trans ((zset_n (Or.inr (by decide))).trans ((zzero_n (by omega)).trans ((zset_n (Or.inr (by decide))).trans ((zzero_n (by omega)).trans ((zset_n (Or.inr (by decide))).trans ((zzero_n (by omega)).trans ((zset_n (Or.inr (by decide))).trans ((zset_n (Or.inr (by decide))).trans ((zzero_n (by omega)).trans ((zset_n (Or.inr (by decide))).trans ((zzero_n (by omega)).trans ((zset_n (Or.inr (by decide))).trans ((zzero_n (by omega)).trans ((zset_n (Or.inr (by decide))).trans ((zzero_n (by omega)).trans ((zset_s' (by omega)).trans (by omega)))))))))))))))))))))))))))),
    fun p hp => (zset_n (Or.inl (by omega))).trans ((zset_n (Or.inl (by omega))).trans ((zset_n (Or.inl (by omega))).trans ((zset_n (Or.inl (by omega))).trans ((zset_n (Or.inl (by omega))).trans ((zset_n (Or.inl (by omega))).trans ((zset_n (Or.inr (by decide))).trans ((zzero_n (by omega)).trans ((zset_n (Or.inr (by decide))).trans ((zzero_n (by omega)).trans ((zset_n (Or.inr (by decide))).trans ((zzero_n (by omega)).trans ((zset_n (Or.inr (by decide))).trans ((zzero_n (by omega)).trans ((zset_n (Or.inr (by decide))).trans ((zzero_n (by omega)).trans ((zset_n (Or.inr (by decide))).trans ((zzero_n (by omega)).trans ((zset_n (Or.inr (by decide))).trans ((zset_n (Or.inr (by decide))).trans ((zzero_n (by omega)).trans ((zset_n (Or.inr (by decide))).trans ((zzero_n (by omega)).trans ((zset_n (Or.inr (by decide))).trans ((zzero_n (by omega)).trans ((zset_s' (by omega)).trans (by omega)))))))))))))))))))))))))),
    fun p hp => (zset_n (Or.inl (by omega))).trans ((zset_n (Or.inl (by omega))).trans ((zset_n (Or.inl (by omega))).trans ((zset_n (Or.inl (by omega))).trans ((zset_n (Or.inl (by omega))).trans ((zset_n (Or.inl (by omega))).trans ((zset_n (Or.inr (by decide))).trans ((zzero_n (by omega)).trans ((zset_n (Or.inr (by decide))).trans ((zzero_n (by omega)).trans ((zset_n (Or.inr (by decide))).trans ((zzero_n (by omega)).trans ((zset_n (Or.inr (by decide))).trans ((zzero_n (by omega)).trans ((zset_n (Or.inr (by decide))).trans ((zzero_n (by omega)).trans ((zset_n (Or.inr (by decide))).trans ((zzero_n (by omega)).trans ((zset_n (Or.inr (by decide))).trans ((zset_n (Or.inr (by decide))).trans ((zzero_n (by omega)).trans ((zset_n (Or.inr (by decide))).trans ((zzero_n (by omega)).trans ((zset_s' (by omega)).trans (by omega)))))))))))))))))))))))),
    fun p hp => (zset_n (Or.inl (by omega))).trans ((zset_n (Or.inl (by omega))).trans ((zset_n (Or.inl (by omega))).trans ((zset_n (Or.inl (by omega))).trans ((zset_n (Or.inl (by omega))).trans ((zset_n (Or.inl (by omega))).trans ((zset_n (Or.inr (by decide))).trans ((zzero_n (by omega)).trans ((zset_n (Or.inr (by decide))).trans ((zzero_n (by omega)).trans ((zset_n (Or.inr (by decide))).trans ((zzero_n (by omega)).trans ((zset_n (Or.inr (by decide))).trans ((zzero_n (by omega)).trans ((zset_n (Or.inr (by decide))).trans ((zzero_n (by omega)).trans ((zset_n (Or.inr (by decide))).trans ((zzero_n (by omega)).trans ((zset_n (Or.inr (by decide))).trans ((zset_n (Or.inr (by decide))).trans ((zzero_n (by omega)).trans ((zset_s' (by omega)).trans (by omega)))))))))))))))))))))),
    fun p hp => (zset_n (Or.inl (by omega))).trans ((zset_n (Or.inl (by omega))).trans ((zset_n (Or.inl (by omega))).trans ((zset_n (Or.inl (by omega))).trans ((zset_n (Or.inl (by omega))).trans ((zset_n (Or.inl (by omega))).trans ((zset_n (Or.inr (by decide))).trans ((zzero_n (by omega)).trans ((zset_n (Or.inr (by decide))).trans ((zzero_n (by omega)).trans ((zset_n (Or.inr (by decide))).trans ((zzero_n (by omega)).trans ((zset_n (Or.inr (by decide))).trans ((zzero_n (by omega)).trans ((zset_n (Or.inr (by decide))).trans ((zzero_n (by omega)).trans ((zset_n (Or.inr (by decide))).trans ((zzero_n (by omega)).trans ((zset_n (Or.inr (by decide))).trans ((zset_s' (by omega)).trans (by omega)))))))))))))))))))),
    fun p hp => (zset_n (Or.inl (by omega))).trans ((zset_n (Or.inl (by omega))).trans ((zset_n (Or.inl (by omega))).trans ((zset_n (Or.inl (by omega))).trans ((zset_n (Or.inl (by omega))).trans ((zset_n (Or.inl (by omega))).trans ((zset_n (Or.inr (by decide))).trans ((zzero_n (by omega)).trans ((zset_n (Or.inr (by decide))).trans ((zzero_n (by omega)).trans ((zset_n (Or.inr (by decide))).trans ((zzero_n (by omega)).trans ((zset_n (Or.inr (by decide))).trans ((zzero_n (by omega)).trans ((zset_n (Or.inr (by decide))).trans ((zzero_n (by omega)).trans ((zset_s' (by omega)).trans (by omega))))))))))))))))),
    fun p hp => (zset_n (Or.inl (by omega))).trans ((zset_n (Or.inl (by omega))).trans ((zset_n (Or.inl (by omega))).trans ((zset_n (Or.inl (by omega))).trans ((zset_n (Or.inl (by omega))).trans ((zset_n (Or.inl (by omega))).trans ((zset_n (Or.inr (by decide))).trans ((zzero_n (by omega)).trans ((zset_n (Or.inr (by decide))).trans ((zzero_n (by omega)).trans ((zset_n (Or.inr (by decide))).trans ((zzero_n (by omega)).trans ((zset_n (Or.inr (by decide))).trans ((zzero_n (by omega)).trans ((zset_s' (by omega)).trans (by omega))))))))))))))),
    fun p hp => (zset_n (Or.inl (by omega))).trans ((zset_n (Or.inl (by omega))).trans ((zset_n (Or.inl (by omega))).trans ((zset_n (Or.inl (by omega))).trans ((zset_n (Or.inl (by omega))).trans ((zset_n (Or.inl (by omega))).trans ((zset_n (Or.inr (by decide))).trans ((zzero_n (by omega)).trans ((zset_n (Or.inr (by decide))).trans ((zzero_n (by omega)).trans ((zset_n (Or.inr (by decide))).trans ((zzero_n (by omega)).trans ((zset_s' (by omega)).trans (by omega))))))))))))),
    fun p hp => (zset_n (Or.inl (by omega))).trans ((zset_n (Or.inl (by omega))).trans ((zset_n (Or.inl (by omega))).trans ((zset_n (Or.inl (by omega))).trans ((zset_n (Or.inl (by omega))).trans ((zset_n (Or.inl (by omega))).trans ((zset_n (Or.inr (by decide))).trans ((zzero_n (by omega)).trans ((zset_n (Or.inr (by decide))).trans ((zzero_n (by omega)).trans ((zset_s' (by omega)).trans (by omega))))))))))),
    fun p hp => (zset_n (Or.inl (by omega))).trans ((zset_n (Or.inl (by omega))).trans ((zset_n (Or.inl (by omega))).trans ((zset_n (Or.inl (by omega))).trans ((zset_n (Or.inl (by omega))).trans ((zset_n (Or.inl (by omega))).trans ((zset_n (Or.inr (by decide))).trans ((zzero_n (by omega)).trans ((zset_s' (by omega)).trans (by omega))))))))),
    fun p hp => (zset_n (Or.inl (by omega))).trans ((zset_n (Or.inl (by omega))).trans ((zset_n (Or.inl (by omega))).trans ((zset_n (Or.inl (by omega))).trans ((zset_n (Or.inl (by omega))).trans ((zset_n (Or.inl (by omega))).trans ((zset_s' (by omega)).trans (by omega))))))),
    fun p hp => (zset_n (Or.inl (by omega))).trans ((zset_n (Or.inl (by omega))).trans ((zset_n (Or.inl (by omega))).trans ((zset_n (Or.inl (by omega))).trans ((zset_n (Or.inl (by omega))).trans ((zset_n (Or.inl (by omega))).trans ((zset_n (Or.inr (by decide))).trans ((zzero_n (by omega)).trans ((zset_n (Or.inr (by decide))).trans ((zzero_n (by omega)).trans ((zset_n (Or.inr (by decide))).trans ((zzero_n (by omega)).trans ((zset_n (Or.inr (by decide))).trans ((zzero_n (by omega)).trans ((zset_n (Or.inr (by decide))).trans ((zzero_n (by omega)).trans ((zset_n (Or.inr (by decide))).trans ((zzero_n (by omega)).trans ((zset_s' (by omega)).trans (by omega))))))))))))))))))),
    fun p j hp => (zset_n (Or.inl (by omega))).trans ((zset_n (Or.inl (by omega))).trans ((zset_n (Or.inl (by omega))).trans ((zset_n (Or.inl (by omega))).trans ((zset_n (Or.inl (by omega))).trans ((zset_n (Or.inl (by omega))).trans ((zset_n (Or.inl (by omega))).trans ((zzero_n (by omega)).trans ((zset_n (Or.inl (by omega))).trans ((zzero_n (by omega)).trans ((zset_n (Or.inl (by omega))).trans ((zzero_n (by omega)).trans ((zset_n (Or.inl (by omega))).trans ((zzero_n (by omega)).trans ((zset_n (Or.inl (by omega))).trans ((zzero_n (by omega)).trans ((zset_n (Or.inl (by omega))).trans ((zzero_n (by omega)).trans ((zset_n (Or.inl (by omega))).trans ((zset_n (Or.inl (by omega))).trans (zzero_s' (by omega))))))))))))))))))))),
    fun p j hp => (zset_n (Or.inl (by omega))).trans ((zset_n (Or.inl (by omega))).trans ((zset_n (Or.inl (by omega))).trans ((zset_n (Or.inl (by omega))).trans ((zset_n (Or.inl (by omega))).trans ((zset_n (Or.inl (by omega))).trans ((zset_n (Or.inl (by omega))).trans ((zzero_n (by omega)).trans ((zset_n (Or.inl (by omega))).trans ((zzero_n (by omega)).trans ((zset_n (Or.inl (by omega))).trans ((zzero_n (by omega)).trans ((zset_n (Or.inl (by omega))).trans ((zzero_n (by omega)).trans ((zset_n (Or.inl (by omega))).trans ((zzero_n (by omega)).trans ((zset_n (Or.inl (by omega))).trans (zzero_s' (by omega)))))))))))))))))),
    fun p j hp => (if hj12 : j = 12 then (by subst hj12; exact (zset_s' (by omega)).trans (by decide)) else (zset_n (Or.inr hj12)).trans ((if hj10 : j = 10 then (by subst hj10; exact (zset_s' (by omega)).trans (by decide)) else (zset_n (Or.inr hj10)).trans ((if hj9 : j = 9 then (by subst hj9; exact (zset_s' (by omega)).trans (by decide)) else (zset_n (Or.inr hj9)).trans ((if hj8 : j = 8 then (by subst hj8; exact (zset_s' (by omega)).trans (by decide)) else (zset_n (Or.inr hj8)).trans ((if hj5 : j = 5 then (by subst hj5; exact (zset_s' (by omega)).trans (by decide)) else (zset_n (Or.inr hj5)).trans ((if hj1 : j = 1 then (by subst hj1; exact (zset_s' (by omega)).trans (by decide)) else (zset_n (Or.inr hj1)).trans ((zset_n (Or.inl (by omega))).trans ((zzero_n (by omega)).trans ((zset_n (Or.inl (by omega))).trans ((zzero_n (by omega)).trans ((zset_n (Or.inl (by omega))).trans ((zzero_n (by omega)).trans ((zset_n (Or.inl (by omega))).trans ((zzero_n (by omega)).trans ((zset_n (Or.inl (by omega))).trans ((zzero_n (by omega)).trans ((zset_n (Or.inl (by omega))).trans ((zzero_n (by omega)).trans ((zset_n (Or.inl (by omega))).trans ((zset_n (Or.inl (by omega))).trans ((zzero_n (by omega)).trans ((zset_n (Or.inl (by omega))).trans ((zzero_n (by omega)).trans ((zset_n (Or.inl (by omega))).trans ((zzero_n (by omega)).trans ((zset_n (Or.inl (by omega))).trans ((zzero_n (by omega)).trans ((zset_n (Or.inl (by omega))).trans ((zzero_s' (by omega)).trans (qM00_z hj1 hj5 hj8 hj9 hj10 hj12))))))))))))))))))))))))))))))))))),
    fun p hp => (zset_n (Or.inl (by omega))).trans ((zset_n (Or.inl (by omega))).trans ((zset_n (Or.inl (by omega))).trans ((zset_n (Or.inl (by omega))).trans ((zset_n (Or.inl (by omega))).trans ((zset_n (Or.inl (by omega))).trans ((zset_n (Or.inr (by decide))).trans ((zzero_n (by omega)).trans ((zset_n (Or.inr (by decide))).trans ((zzero_n (by omega)).trans ((zset_n (Or.inr (by decide))).trans ((zzero_n (by omega)).trans ((zset_n (Or.inr (by decide))).trans ((zzero_n (by omega)).trans ((zset_n (Or.inr (by decide))).trans ((zzero_n (by omega)).trans ((zset_n (Or.inr (by decide))).trans ((zzero_n (by omega)).trans ((zset_n (Or.inr (by decide))).trans ((zset_n (Or.inr (by decide))).trans ((zzero_n (by omega)).trans ((zset_n (Or.inr (by decide))).trans ((zzero_n (by omega)).trans ((zset_n (Or.inr (by decide))).trans ((zzero_n (by omega)).trans ((zset_n (Or.inr (by decide))).trans ((zzero_n (by omega)).trans ((zset_n (Or.inr (by decide))).trans ((zzero_n (by omega)).trans (rfl))))))))))))))))))))))))))))),
    fun p hp => (zset_n (Or.inl (by omega))).trans ((zset_n (Or.inl (by omega))).trans ((zset_n (Or.inl (by omega))).trans ((zset_n (Or.inl (by omega))).trans ((zset_n (Or.inl (by omega))).trans ((zset_n (Or.inl (by omega))).trans ((zset_n (Or.inr (by decide))).trans ((zzero_n (by omega)).trans ((zset_n (Or.inr (by decide))).trans ((zzero_n (by omega)).trans ((zset_n (Or.inr (by decide))).trans ((zzero_n (by omega)).trans ((zset_n (Or.inr (by decide))).trans ((zzero_n (by omega)).trans ((zset_n (Or.inr (by decide))).trans ((zzero_n (by omega)).trans ((zset_n (Or.inr (by decide))).trans ((zzero_n (by omega)).trans ((zset_n (Or.inr (by decide))).trans ((zset_n (Or.inr (by decide))).trans ((zzero_n (by omega)).trans ((zset_n (Or.inr (by decide))).trans ((zzero_n (by omega)).trans ((zset_n (Or.inr (by decide))).trans ((zzero_n (by omega)).trans ((zset_n (Or.inr (by decide))).trans ((zzero_n (by omega)).trans ((zset_n (Or.inr (by decide))).trans ((zzero_n (by omega)).trans (rfl))))))))))))))))))))))))))))),
    fun p hp => (zset_n (Or.inl (by omega))).trans ((zset_n (Or.inl (by omega))).trans ((zset_n (Or.inl (by omega))).trans ((zset_n (Or.inl (by omega))).trans ((zset_n (Or.inl (by omega))).trans ((zset_n (Or.inl (by omega))).trans ((zset_n (Or.inr (by decide))).trans ((zzero_n (by omega)).trans ((zset_n (Or.inr (by decide))).trans ((zzero_n (by omega)).trans ((zset_n (Or.inr (by decide))).trans ((zzero_n (by omega)).trans ((zset_n (Or.inr (by decide))).trans ((zzero_n (by omega)).trans ((zset_n (Or.inr (by decide))).trans ((zzero_n (by omega)).trans ((zset_n (Or.inr (by decide))).trans ((zzero_n (by omega)).trans ((zset_n (Or.inr (by decide))).trans ((zset_n (Or.inr (by decide))).trans ((zzero_n (by omega)).trans ((zset_n (Or.inr (by decide))).trans ((zzero_n (by omega)).trans ((zset_n (Or.inr (by decide))).trans ((zzero_n (by omega)).trans ((zset_n (Or.inr (by decide))).trans ((zzero_n (by omega)).trans ((zset_n (Or.inr (by decide))).trans ((zzero_n (by omega)).trans (rfl))))))))))))))))))))))))))))),
    fun p hp => (zset_n (Or.inl (by omega))).trans ((zset_n (Or.inl (by omega))).trans ((zset_n (Or.inl (by omega))).trans ((zset_n (Or.inl (by omega))).trans ((zset_n (Or.inl (by omega))).trans ((zset_n (Or.inl (by omega))).trans ((zset_n (Or.inr (by decide))).trans ((zzero_n (by omega)).trans ((zset_n (Or.inr (by decide))).trans ((zzero_n (by omega)).trans ((zset_n (Or.inr (by decide))).trans ((zzero_n (by omega)).trans ((zset_n (Or.inr (by decide))).trans ((zzero_n (by omega)).trans ((zset_n (Or.inr (by decide))).trans ((zzero_n (by omega)).trans ((zset_n (Or.inr (by decide))).trans ((zzero_n (by omega)).trans ((zset_n (Or.inr (by decide))).trans ((zset_n (Or.inr (by decide))).trans ((zzero_n (by omega)).trans ((zset_n (Or.inr (by decide))).trans ((zzero_n (by omega)).trans ((zset_n (Or.inr (by decide))).trans ((zzero_n (by omega)).trans ((zset_n (Or.inr (by decide))).trans ((zzero_n (by omega)).trans ((zset_n (Or.inr (by decide))).trans ((zzero_n (by omega)).trans (rfl))))))))))))))))))))))))))))),
    fun p hp => (zset_n (Or.inl (by omega))).trans ((zset_n (Or.inl (by omega))).trans ((zset_n (Or.inl (by omega))).trans ((zset_n (Or.inl (by omega))).trans ((zset_n (Or.inl (by omega))).trans ((zset_n (Or.inl (by omega))).trans ((zset_n (Or.inr (by decide))).trans ((zzero_n (by omega)).trans ((zset_n (Or.inr (by decide))).trans ((zzero_n (by omega)).trans ((zset_n (Or.inr (by decide))).trans ((zzero_n (by omega)).trans ((zset_n (Or.inr (by decide))).trans ((zzero_n (by omega)).trans ((zset_n (Or.inr (by decide))).trans ((zzero_n (by omega)).trans ((zset_n (Or.inr (by decide))).trans ((zzero_n (by omega)).trans ((zset_n (Or.inr (by decide))).trans ((zset_n (Or.inr (by decide))).trans ((zzero_n (by omega)).trans ((zset_n (Or.inr (by decide))).trans ((zzero_n (by omega)).trans ((zset_n (Or.inr (by decide))).trans ((zzero_n (by omega)).trans ((zset_n (Or.inr (by decide))).trans ((zzero_n (by omega)).trans ((zset_n (Or.inr (by decide))).trans ((zzero_n (by omega)).trans (rfl))))))))))))))))))))))))))))),
    fun p hp => (zset_n (Or.inl (by omega))).trans ((zset_n (Or.inl (by omega))).trans ((zset_n (Or.inl (by omega))).trans ((zset_n (Or.inl (by omega))).trans ((zset_n (Or.inl (by omega))).trans ((zset_n (Or.inl (by omega))).trans ((zset_n (Or.inr (by decide))).trans ((zzero_n (by omega)).trans ((zset_n (Or.inr (by decide))).trans ((zzero_n (by omega)).trans ((zset_n (Or.inr (by decide))).trans ((zzero_n (by omega)).trans ((zset_n (Or.inr (by decide))).trans ((zzero_n (by omega)).trans ((zset_n (Or.inr (by decide))).trans ((zzero_n (by omega)).trans ((zset_n (Or.inr (by decide))).trans ((zzero_n (by omega)).trans ((zset_n (Or.inr (by decide))).trans ((zset_n (Or.inr (by decide))).trans ((zzero_n (by omega)).trans ((zset_n (Or.inr (by decide))).trans ((zzero_n (by omega)).trans ((zset_n (Or.inr (by decide))).trans ((zzero_n (by omega)).trans ((zset_n (Or.inr (by decide))).trans ((zzero_n (by omega)).trans ((zset_n (Or.inr (by decide))).trans ((zzero_n (by omega)).trans (rfl))))))))))))))))))))))))))))),
    fun p hp => (zset_n (Or.inl (by omega))).trans ((zset_n (Or.inl (by omega))).trans ((zset_n (Or.inl (by omega))).trans ((zset_n (Or.inl (by omega))).trans ((zset_n (Or.inl (by omega))).trans ((zset_n (Or.inl (by omega))).trans ((zset_n (Or.inr (by decide))).trans ((zzero_n (by omega)).trans ((zset_n (Or.inr (by decide))).trans ((zzero_n (by omega)).trans ((zset_n (Or.inr (by decide))).trans ((zzero_n (by omega)).trans ((zset_n (Or.inr (by decide))).trans ((zzero_n (by omega)).trans ((zset_n (Or.inr (by decide))).trans ((zzero_n (by omega)).trans ((zset_n (Or.inr (by decide))).trans ((zzero_n (by omega)).trans ((zset_n (Or.inr (by decide))).trans ((zset_n (Or.inr (by decide))).trans ((zzero_n (by omega)).trans ((zset_n (Or.inr (by decide))).trans ((zzero_n (by omega)).trans ((zset_n (Or.inr (by decide))).trans ((zzero_n (by omega)).trans ((zset_n (Or.inr (by decide))).trans ((zzero_n (by omega)).trans ((zset_n (Or.inr (by decide))).trans ((zzero_n (by omega)).trans (rfl))))))))))))))))))))))))))))),
    trivial⟩
/-- the numbers n of cell a from m on are v -/
def zrng (C : zMem) (a m n v : Int) : zMem := fun p j => if p = a ∧ m ≤ j ∧ j < m + n then v else C p j
theorem zrng_0 {C : zMem} {a m v : Int} : zrng C a m 0 v = C := by funext p j; exact if_neg (by omega)
theorem zrng_s {C : zMem} {a m n v : Int} (h : 0 ≤ n) : zset (zrng C a m n v) a (m + n) v = zrng C a m (n + 1) v := by
  funext p j
  unfold zset zrng
  by_cases e : p = a ∧ j = m + n
  · rw [if_pos e, if_pos ⟨e.1, by omega, by omega⟩]
  · rw [if_neg e]
    by_cases e2 : p = a ∧ m ≤ j ∧ j < m + n
    · rw [if_pos e2, if_pos ⟨e2.1, by omega, by omega⟩]
    · rw [if_neg e2, if_neg (fun z => e2 ⟨z.1, z.2.1, by have := z.2.2; have : ¬ j = m + n := fun q => e ⟨z.1, q⟩; omega⟩)]
theorem zrng_n {C : zMem} {a m n v p j : Int} (h : p ≠ a) : zrng C a m n v p j = C p j := by
  unfold zrng
  rw [if_neg (fun z => h z.1)]
theorem z_rows {G : zG} {Q : zQ} {lay : zLay} {C : zMem} {o n m v : Int} {p0 p1 p2 p3 p4 p5 p6 p7 p8 p9 pa pb pc end_ : Nat} {off back : Int} (h0 : 0 ≤ o) (ho : lay o = (13, 26)) (hl : lay (o + 1) = (100, 826)) (hr : C o 1 = o + 1) (hn : 0 ≤ n ∧ n < 100) (hm : 0 ≤ m ∧ m < 200) (w : zW G KX12_init 6 Q end_ [zP o, zI n] [] lay (zrng C (o + 1) m n v) (o + 12) (0, 0))
    (e0 : zD KX12_init p0 (.iload_n 1) 1 p1) (e1 : zD KX12_init p1 (.bipush n) 2 p2) (e2 : zD KX12_init p2 (.if_icmp .ge off) 3 p3) (ht : zT p2 off end_) (e3 : zD KX12_init p3 (.aload_n 0) 1 p4) (e4 : zD KX12_init p4 (.getfield 7) 3 p5) (e5 : zD KX12_init p5 (.bipush m) 2 p6) (e6 : zD KX12_init p6 (.iload_n 1) 1 p7) (e7 : zD KX12_init p7 .iadd 1 p8) (e8 : zD KX12_init p8 (.iconst v) 1 p9) (e9 : zD KX12_init p9 .iastore 1 pa) (ea : zD KX12_init pa (.iinc 1 1) 3 pb) (eb : zD KX12_init pb (.goto back) 3 pc) (ht2 : zT pb back p0) (hmb : m < 128) : zW G KX12_init 6 Q p0 [zP o, zI 0] [] lay C (o + 12) (0, 0) := by
  have hne : o ≠ -1 := by omega
  have hl9 : ∀ t : Int, 0 ≤ t → t ≤ n → zW G KX12_init 6 Q p0 [zP o, zI t] [] lay (zrng C (o + 1) m t v) (o + 12) (0, 0) := by
    refine z_up n ?_ ?_
    · refine z_il1 e0 (z_bipush e1 (by omega) (z_icmp_ge e2 ht ⟨by unfold zin; omega, by unfold zin; omega⟩ (fun _ => w) (fun z => absurd (Int.le_refl n) z)))
    · intro t t0 t1 ih
      refine z_il1 e0 (z_bipush e1 (by omega) (z_icmp_ge e2 ht ⟨by unfold zin; omega, by unfold zin; omega⟩ (fun z => by exfalso; omega) (fun _ => ?_)))
      refine z_al0 e3 hne (z_gfP (v := o + 1) lX12_7 e4 rfl ho ((zrng_n (by omega)).trans hr) ?_)
      refine z_bipush e5 (by omega) (z_il1 e6 (z_iadd e7 (z_iconst e8 (z_iastore e9 hl ⟨by omega, by omega⟩ ?_))))
      refine zg_iinc ea (fun w _ hw => by cases Option.some.inj (hw.symm.trans (show _ = some (zP o) from rfl)); exact Nat.ne_of_beq_eq_false rfl) rfl (z_goto eb ht2 ?_)
      rw [zrng_s t0]
      exact ih
  have h9 := hl9 0 (Int.le_refl _) hn.1
  rw [zrng_0] at h9
  exact h9
def qM0 (j : Int) : Int := if 114 ≤ j ∧ j < 126 then -1 else if 38 ≤ j ∧ j < 46 then 5 else if 13 ≤ j ∧ j < 38 then 1 else qM00 j
def NwX12 (lay l : zLay) (C c : zMem) (o : Int) : Prop := (∀ p, p < o → l p = lay p) ∧ (∀ p, p < o → c p = C p) ∧ (RefL l o) ∧ (∀ i j t, 0 ≤ i → i < 12 → rfR i j = some t → c (o + i) j = o + t) ∧ (∀ j, c (o + 1) j = qM0 j) ∧ (∀ j, c (o + 5) j = 0) ∧ (∀ j, c (o + 6) j = 0) ∧ (c o 12 = -1) ∧ (c o 3 = C o 3) ∧ (c o 6 = C o 6) ∧ (c o 8 = C o 8) ∧ (c o 15 = C o 15) ∧ (c o 16 = C o 16) ∧ (c o 18 = C o 18) ∧ (c o 19 = C o 19)
theorem NwX12.bl {lay l : zLay} {C c : zMem} {o : Int} (h : NwX12 lay l C c o) : ∀ p, p < o → l p = lay p := h.1
theorem NwX12.bc {lay l : zLay} {C c : zMem} {o : Int} (h : NwX12 lay l C c o) : ∀ p, p < o → c p = C p := h.2.1
theorem NwX12.R {lay l : zLay} {C c : zMem} {o : Int} (h : NwX12 lay l C c o) : RefL l o := h.2.2.1
theorem NwX12.rf {lay l : zLay} {C c : zMem} {o : Int} (h : NwX12 lay l C c o) : ∀ i j t, 0 ≤ i → i < 12 → rfR i j = some t → c (o + i) j = o + t := h.2.2.2.1
theorem NwX12.m {lay l : zLay} {C c : zMem} {o : Int} (h : NwX12 lay l C c o) : ∀ j, c (o + 1) j = qM0 j := h.2.2.2.2.1
theorem NwX12.y5 {lay l : zLay} {C c : zMem} {o : Int} (h : NwX12 lay l C c o) : ∀ j, c (o + 5) j = 0 := h.2.2.2.2.2.1
theorem NwX12.y6 {lay l : zLay} {C c : zMem} {o : Int} (h : NwX12 lay l C c o) : ∀ j, c (o + 6) j = 0 := h.2.2.2.2.2.2.1
theorem NwX12.d12 {lay l : zLay} {C c : zMem} {o : Int} (h : NwX12 lay l C c o) : c o 12 = -1 := h.2.2.2.2.2.2.2.1
theorem NwX12.d3 {lay l : zLay} {C c : zMem} {o : Int} (h : NwX12 lay l C c o) : c o 3 = C o 3 := h.2.2.2.2.2.2.2.2.1
theorem NwX12.d6 {lay l : zLay} {C c : zMem} {o : Int} (h : NwX12 lay l C c o) : c o 6 = C o 6 := h.2.2.2.2.2.2.2.2.2.1
theorem NwX12.d8 {lay l : zLay} {C c : zMem} {o : Int} (h : NwX12 lay l C c o) : c o 8 = C o 8 := h.2.2.2.2.2.2.2.2.2.2.1
theorem NwX12.d15 {lay l : zLay} {C c : zMem} {o : Int} (h : NwX12 lay l C c o) : c o 15 = C o 15 := h.2.2.2.2.2.2.2.2.2.2.2.1
theorem NwX12.d16 {lay l : zLay} {C c : zMem} {o : Int} (h : NwX12 lay l C c o) : c o 16 = C o 16 := h.2.2.2.2.2.2.2.2.2.2.2.2.1
theorem NwX12.d18 {lay l : zLay} {C c : zMem} {o : Int} (h : NwX12 lay l C c o) : c o 18 = C o 18 := h.2.2.2.2.2.2.2.2.2.2.2.2.2.1
theorem NwX12.d19 {lay l : zLay} {C c : zMem} {o : Int} (h : NwX12 lay l C c o) : c o 19 = C o 19 := h.2.2.2.2.2.2.2.2.2.2.2.2.2.2
theorem n_X12 {G : zG} {lay : zLay} {C : zMem} {o : Int} (ho : lay o = (13, 26)) (h0 : 0 ≤ o) : zMM G 6 KX12_init [zP o] lay C (o + 1) (11, 10945) (fun r l c m => r = .inl none ∧ NwX12 lay l C c o ∧ m = o + 12) := by
  refine z_met' (L := [zP o, zU]) gX12_init.1 rfl rfl (Nat.le_of_ble_eq_true rfl) rfl ?_
  refine zW.mono (b' := (11, 10945)) ⟨by decide, by decide⟩ ?_
  refine n_X12a ho h0 (fun l1 c1 h => ?_)
  have e0 : l1 o = (13, 26) := h.l0 _ (by omega)
  have e1 : l1 (o + 1) = (100, 826) := h.l1 _ rfl
  have er : c1 o 1 = o + 1 := h.r0_1 _ (by omega)
  refine z_iconst eX12_init_145 (z_is1 eX12_init_146 (Nat.ne_of_beq_eq_false rfl) ?_)
  refine z_rows (m := 13) (n := 25) (v := 1) h0 e0 e1 er ⟨by decide, by decide⟩ ⟨by decide, by decide⟩ ?_ eX12_init_147 eX12_init_148 eX12_init_150 rfl eX12_init_153 eX12_init_154 eX12_init_157 eX12_init_159 eX12_init_160 eX12_init_161 eX12_init_162 eX12_init_163 eX12_init_166 rfl (by decide)
  refine z_iconst eX12_init_169 (z_is1 eX12_init_170 (Nat.ne_of_beq_eq_false rfl) ?_)
  refine z_rows (m := 38) (n := 8) (v := 5) h0 e0 e1 ((zrng_n (by omega)).trans er) ⟨by decide, by decide⟩ ⟨by decide, by decide⟩ ?_ eX12_init_171 eX12_init_172 eX12_init_174 rfl eX12_init_177 eX12_init_178 eX12_init_181 eX12_init_183 eX12_init_184 eX12_init_185 eX12_init_186 eX12_init_187 eX12_init_190 rfl (by decide)
  refine z_iconst eX12_init_193 (z_is1 eX12_init_194 (Nat.ne_of_beq_eq_false rfl) ?_)
  refine z_rows (m := 114) (n := 12) (v := -1) h0 e0 e1 ((zrng_n (by omega)).trans ((zrng_n (by omega)).trans er)) ⟨by decide, by decide⟩ ⟨by decide, by decide⟩ ?_ eX12_init_195 eX12_init_196 eX12_init_198 rfl eX12_init_201 eX12_init_202 eX12_init_205 eX12_init_207 eX12_init_208 eX12_init_209 eX12_init_210 eX12_init_211 eX12_init_214 rfl (by decide)
  refine z_return eX12_init_217 rfl ?_
  have hx : ∀ p, p ≠ o + 1 → zrng (zrng (zrng c1 (o + 1) 13 25 1) (o + 1) 38 8 5) (o + 1) 114 12 (-1) p = c1 p := fun p hp => by
    funext j
    exact (zrng_n hp).trans ((zrng_n hp).trans (zrng_n hp))
  refine ⟨rfl, ⟨h.bl, fun p hp => (hx p (by omega)).trans (h.bc p hp), ⟨h0, fun i i0 i1 => ?_⟩, fun i j t i0 i1 ht => ?_, fun j => ?_, fun j => ?_, fun j => ?_, ?_, ?_, ?_, ?_, ?_, ?_, ?_, ?_⟩, rfl⟩
  · have e : i = 0 ∨ i = 1 ∨ i = 2 ∨ i = 3 ∨ i = 4 ∨ i = 5 ∨ i = 6 ∨ i = 7 ∨ i = 8 ∨ i = 9 ∨ i = 10 ∨ i = 11 := by omega
    rcases e with e | e | e | e | e | e | e | e | e | e | e | e <;> subst e
    · exact h.l0 _ rfl
    · exact h.l1 _ rfl
    · exact h.l2 _ rfl
    · exact h.l3 _ rfl
    · exact h.l4 _ rfl
    · exact h.l5 _ rfl
    · exact h.l6 _ rfl
    · exact h.l7 _ rfl
    · exact h.l8 _ rfl
    · exact h.l9 _ rfl
    · exact h.l10 _ rfl
    · exact h.l11 _ rfl
  · unfold rfR at ht
    split at ht
    · rename_i e
      subst e
      rw [hx _ (by omega)]
      split at ht
      · rename_i e; subst e; cases ht; exact h.r0_1 _ rfl
      split at ht
      · rename_i e; subst e; cases ht; exact h.r0_2 _ rfl
      split at ht
      · rename_i e; subst e; cases ht; exact h.r0_4 _ rfl
      split at ht
      · rename_i e; subst e; cases ht; exact h.r0_5 _ rfl
      split at ht
      · rename_i e; subst e; cases ht; exact h.r0_7 _ rfl
      split at ht
      · rename_i e; subst e; cases ht; exact h.r0_14 _ rfl
      split at ht
      · rename_i e; subst e; cases ht; exact h.r0_20 _ rfl
      split at ht
      · rename_i e; subst e; cases ht; exact h.r0_21 _ rfl
      split at ht
      · rename_i e; subst e; cases ht; exact h.r0_22 _ rfl
      split at ht
      · rename_i e; subst e; cases ht; exact h.r0_23 _ rfl
      split at ht
      · rename_i e; subst e; cases ht; exact h.r0_24 _ rfl
      · cases ht
    · cases ht
  · unfold zrng qM0
    by_cases a1 : 114 ≤ j ∧ j < 126
    · rw [if_pos ⟨rfl, by omega, by omega⟩, if_pos a1]
    · rw [if_neg (by omega), if_neg a1]
      by_cases a2 : 38 ≤ j ∧ j < 46
      · rw [if_pos ⟨rfl, by omega, by omega⟩, if_pos a2]
      · rw [if_neg (by omega), if_neg a2]
        by_cases a3 : 13 ≤ j ∧ j < 38
        · rw [if_pos ⟨rfl, by omega, by omega⟩, if_pos a3]
        · rw [if_neg (by omega), if_neg a3]
          exact h.f1 _ j rfl
  · rw [hx _ (by omega)]; exact h.y5 _ j rfl
  · rw [hx _ (by omega)]; exact h.y6 _ j rfl
  · rw [hx _ (by omega)]; exact h.v0_12 _ (by omega)
  · rw [hx _ (by omega)]; exact h.d3 _ rfl
  · rw [hx _ (by omega)]; exact h.d6 _ rfl
  · rw [hx _ (by omega)]; exact h.d8 _ rfl
  · rw [hx _ (by omega)]; exact h.d15 _ rfl
  · rw [hx _ (by omega)]; exact h.d16 _ rfl
  · rw [hx _ (by omega)]; exact h.d18 _ rfl
  · rw [hx _ (by omega)]; exact h.d19 _ rfl

