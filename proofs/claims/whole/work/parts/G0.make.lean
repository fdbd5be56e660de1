/-! The constructors. -/
theorem zset_s' {C : zMem} {a j v p : Int} (h : p = a) : zset C a j v p j = v := by rw [h]; exact zset_eq
theorem zset_n {C : zMem} {a j v p j' : Int} (h : p ≠ a ∨ j' ≠ j) : zset C a j v p j' = C p j' := by
  unfold zset
  rw [if_neg (by omega)]
theorem zzero_s' {C : zMem} {a v p j : Int} (h : p = a) : zzero C a v p j = v := by rw [h]; exact zzero_s _ _ _ _
theorem zzero_n {C : zMem} {a v p j : Int} (h : p ≠ a) : zzero C a v p j = C p j := by rw [zzero_o h]
theorem zborn_s' {C : zMem} {a p j : Int} {r : vw_C} (h : p = a) : zborn C a r p j = if zTag (r.2.1 j.toNat).2.2.1 = 2 then -1 else 0 := by unfold zborn; rw [if_pos h]
theorem zborn_n {C : zMem} {a p j : Int} {r : vw_C} (h : p ≠ a) : zborn C a r p j = C p j := by rw [zborn_o h]
theorem zfil_s' {C : zMem} {a n v p j : Int} (h : p = a) (hj : 0 ≤ j ∧ j < n) : zfil C a n v p j = v := by
  unfold zfil
  rw [if_pos ⟨h, hj.1, hj.2⟩]
theorem zfil_n {C : zMem} {a n v p j : Int} (h : p ≠ a) : zfil C a n v p j = C p j := by
  unfold zfil
  rw [if_neg (fun z => h z.1)]
theorem zlay_s' {lay : zLay} {a p n : Int} {kd : Nat} (h : p = a) : zlay lay a kd n p = (kd, n) := by rw [h]; exact zlay_s _ _ _ _
theorem z_gfP {G : zG} {k : zK} {D : Nat} {Q : zQ} {pc pc' : Nat} {L st : List zAV} {lay : zLay} {C : zMem} {nx : Int} {b : Nat × Nat} {own : String} {idx ci kf : Nat} {ty : FieldType} {fin : Bool} {n o v : Int} (hf : zFl own idx ci kf 2 ty fin) (hd : zD k pc (.getfield idx) 3 pc') (hk : own = k.1.cls) (ho : lay o = (ci + 1, n)) (hv : C o kf = v) (w : zW G k D Q pc' L (zP v :: st) lay C nx b) : zW G k D Q pc L (zP o :: st) lay C nx b :=
  z_getfield hf hd hk ho (by rw [hv]; exact w)
theorem zfil_o {C : zMem} {a n v p : Int} (h : p ≠ a) : zfil C a n v p = C p := by
  funext j
  exact zfil_n h
def NwX9 (lay l : zLay) (C c : zMem) (o : Int) : Prop := (∀ p, p < o → l p = lay p) ∧ (∀ p, p < o → c p = C p) ∧ (∀ p, p = o + 0 → l p = (10, 7)) ∧ (∀ p, p = o + 1 → l p = (100, 25)) ∧ (∀ p, p = o + 2 → l p = (100, 5)) ∧ (∀ p, p = o + 3 → l p = (100, 5)) ∧ (∀ p, p = o + 0 → c p 4 = o + 1) ∧ (∀ p, p = o + 0 → c p 5 = o + 2) ∧ (∀ p, p = o + 0 → c p 6 = o + 3) ∧ (∀ p, p = o + 0 → c p 0 = 1) ∧ (∀ p, p = o + 0 → c p 3 = 1) ∧ (∀ p j, p = o + 1 → 0 ≤ j → j < 25 → c p j = 1) ∧ (∀ p, p = o → c p 1 = C p 1) ∧ (∀ p, p = o → c p 2 = C p 2) ∧ (True)
theorem NwX9.bl {lay l : zLay} {C c : zMem} {o : Int} (h : NwX9 lay l C c o) : ∀ p, p < o → l p = lay p := h.1
theorem NwX9.bc {lay l : zLay} {C c : zMem} {o : Int} (h : NwX9 lay l C c o) : ∀ p, p < o → c p = C p := h.2.1
theorem NwX9.l0 {lay l : zLay} {C c : zMem} {o : Int} (h : NwX9 lay l C c o) : ∀ p, p = o + 0 → l p = (10, 7) := h.2.2.1
theorem NwX9.l1 {lay l : zLay} {C c : zMem} {o : Int} (h : NwX9 lay l C c o) : ∀ p, p = o + 1 → l p = (100, 25) := h.2.2.2.1
theorem NwX9.l2 {lay l : zLay} {C c : zMem} {o : Int} (h : NwX9 lay l C c o) : ∀ p, p = o + 2 → l p = (100, 5) := h.2.2.2.2.1
theorem NwX9.l3 {lay l : zLay} {C c : zMem} {o : Int} (h : NwX9 lay l C c o) : ∀ p, p = o + 3 → l p = (100, 5) := h.2.2.2.2.2.1
theorem NwX9.r0_4 {lay l : zLay} {C c : zMem} {o : Int} (h : NwX9 lay l C c o) : ∀ p, p = o + 0 → c p 4 = o + 1 := h.2.2.2.2.2.2.1
theorem NwX9.r0_5 {lay l : zLay} {C c : zMem} {o : Int} (h : NwX9 lay l C c o) : ∀ p, p = o + 0 → c p 5 = o + 2 := h.2.2.2.2.2.2.2.1
theorem NwX9.r0_6 {lay l : zLay} {C c : zMem} {o : Int} (h : NwX9 lay l C c o) : ∀ p, p = o + 0 → c p 6 = o + 3 := h.2.2.2.2.2.2.2.2.1
theorem NwX9.v0_0 {lay l : zLay} {C c : zMem} {o : Int} (h : NwX9 lay l C c o) : ∀ p, p = o + 0 → c p 0 = 1 := h.2.2.2.2.2.2.2.2.2.1
theorem NwX9.v0_3 {lay l : zLay} {C c : zMem} {o : Int} (h : NwX9 lay l C c o) : ∀ p, p = o + 0 → c p 3 = 1 := h.2.2.2.2.2.2.2.2.2.2.1
theorem NwX9.a1 {lay l : zLay} {C c : zMem} {o : Int} (h : NwX9 lay l C c o) : ∀ p j, p = o + 1 → 0 ≤ j → j < 25 → c p j = 1 := h.2.2.2.2.2.2.2.2.2.2.2.1
theorem NwX9.d1 {lay l : zLay} {C c : zMem} {o : Int} (h : NwX9 lay l C c o) : ∀ p, p = o → c p 1 = C p 1 := h.2.2.2.2.2.2.2.2.2.2.2.2.1
theorem NwX9.d2 {lay l : zLay} {C c : zMem} {o : Int} (h : NwX9 lay l C c o) : ∀ p, p = o → c p 2 = C p 2 := h.2.2.2.2.2.2.2.2.2.2.2.2.2.1
theorem NwX9.z {lay l : zLay} {C c : zMem} {o : Int} (h : NwX9 lay l C c o) : True := h.2.2.2.2.2.2.2.2.2.2.2.2.2.2
theorem n_X9 {G : zG} {lay : zLay} {C : zMem} {o : Int} (ho : lay o = (10, 7)) (h0 : 0 ≤ o) : zMM G 2 KX9_init [zP o] lay C (o + 1) (3, 35) (fun r l c m => r = .inl none ∧ NwX9 lay l C c o ∧ m = o + 4) := by
  refine z_met' (L := [zP o]) gX9_init.1 rfl rfl (Nat.le_of_ble_eq_true rfl) rfl ?_
  have hne : o ≠ -1 := by omega
  have ho' : ∀ p, p = o + 0 → lay p = (10, 7) := fun p hp => by rw [hp, Int.add_zero]; exact ho
  have hnm : KX9_init.1.name = "<init>" ∧ (vwCl[9]?).map (·.1) = some RX9 := ⟨rfl, rfl⟩
  refine z_al0 eX9_init_0 hne ?_
  refine z_objInit eX9_init_1 oX9_3 hne (Nat.le_of_ble_eq_true rfl) (Nat.le_of_ble_eq_true rfl) ?_
  refine z_al0 eX9_init_4 hne ?_
  refine z_iconst eX9_init_5 ?_
  refine z_pfI (j := 0) lX9_9 eX9_init_6 rfl (ho' _ (by omega)) rfl hnm ?_
  refine z_al0 eX9_init_9 hne ?_
  refine z_iconst eX9_init_10 ?_
  refine z_pfI (j := 3) lX9_15 eX9_init_11 rfl (ho' _ (by omega)) rfl hnm ?_
  refine z_al0 eX9_init_14 hne ?_
  refine z_bipush eX9_init_15 (by decide) ?_
  refine zW.mono (b' := (2 + 1, 10 + (25 : Int).toNat)) ⟨by decide, by decide⟩ ?_
  refine z_newi eX9_init_17 w_ai ⟨by decide, by decide⟩ ?_
  refine z_pfP (j := 4) lX9_18 eX9_init_19 rfl rfl ((zlay_o (by omega)).trans (ho' _ (by omega))) rfl hnm ?_
  refine z_al0 eX9_init_22 hne ?_
  refine z_gfP (v := o + 1) lX9_18 eX9_init_23 rfl ((zlay_o (by omega)).trans (ho' _ (by omega))) ((zset_s' (by omega)).trans (by omega)) ?_
  refine z_iconst eX9_init_26 ?_
  refine z_S2v eX9_init_27 vX9_22 rfl rfl (Nat.le_of_ble_eq_true rfl) (Nat.le_of_ble_eq_true rfl) (c_J7_fill_53178 (by omega) (zlay_s' (by omega)) ⟨by decide, by decide⟩) ?_
  refine z_al0 eX9_init_30 hne ?_
  refine z_iconst eX9_init_31 ?_
  refine zW.mono (b' := (1 + 1, 5 + (5 : Int).toNat)) ⟨by decide, by decide⟩ ?_
  refine z_newi eX9_init_32 w_ai ⟨by decide, by decide⟩ ?_
  refine z_pfP (j := 5) lX9_28 eX9_init_34 rfl rfl ((zlay_o (by omega)).trans ((zlay_o (by omega)).trans (ho' _ (by omega)))) rfl hnm ?_
  refine z_al0 eX9_init_37 hne ?_
  refine z_iconst eX9_init_38 ?_
  refine zW.mono (b' := (0 + 1, 0 + (5 : Int).toNat)) ⟨by decide, by decide⟩ ?_
  refine z_newi eX9_init_39 w_ai ⟨by decide, by decide⟩ ?_
  refine z_pfP (j := 6) lX9_31 eX9_init_41 rfl rfl ((zlay_o (by omega)).trans ((zlay_o (by omega)).trans ((zlay_o (by omega)).trans (ho' _ (by omega))))) rfl hnm ?_
  refine z_return eX9_init_44 rfl ?_
  exact ⟨rfl, ⟨fun p hp => (zlay_o (by omega)).trans ((zlay_o (by omega)).trans ((zlay_o (by omega)).trans (rfl))),
    fun p hp => (zset_o (by omega)).trans ((zzero_o (by omega)).trans ((zset_o (by omega)).trans ((zzero_o (by omega)).trans ((zfil_o (by omega)).trans ((zset_o (by omega)).trans ((zzero_o (by omega)).trans ((zset_o (by omega)).trans ((zset_o (by omega)).trans (rfl))))))))),
    fun p hp => (zlay_o (by omega)).trans ((zlay_o (by omega)).trans ((zlay_o (by omega)).trans (ho' _ (by omega)))),
    fun p hp => (zlay_o (by omega)).trans ((zlay_o (by omega)).trans (zlay_s' (by omega))),
    fun p hp => (zlay_o (by omega)).trans (zlay_s' (by omega)),
    fun p hp => zlay_s' (by omega),
    fun p hp => (zset_n (Or.inr (by decide))).trans ((zzero_n (by omega)).trans ((zset_n (Or.inr (by decide))).trans ((zzero_n (by omega)).trans ((zfil_n (by omega)).trans ((zset_s' (by omega)).trans (by omega)))))),
    fun p hp => (zset_n (Or.inr (by decide))).trans ((zzero_n (by omega)).trans ((zset_s' (by omega)).trans (by omega))),
    fun p hp => (zset_s' (by omega)).trans (by omega),
    fun p hp => (zset_n (Or.inr (by decide))).trans ((zzero_n (by omega)).trans ((zset_n (Or.inr (by decide))).trans ((zzero_n (by omega)).trans ((zfil_n (by omega)).trans ((zset_n (Or.inr (by decide))).trans ((zzero_n (by omega)).trans ((zset_n (Or.inr (by decide))).trans ((zset_s' (by omega)).trans (by omega))))))))),
    fun p hp => (zset_n (Or.inr (by decide))).trans ((zzero_n (by omega)).trans ((zset_n (Or.inr (by decide))).trans ((zzero_n (by omega)).trans ((zfil_n (by omega)).trans ((zset_n (Or.inr (by decide))).trans ((zzero_n (by omega)).trans ((zset_s' (by omega)).trans (by omega)))))))),
    fun p j hp hj0 hj1 => (zset_n (Or.inl (by omega))).trans ((zzero_n (by omega)).trans ((zset_n (Or.inl (by omega))).trans ((zzero_n (by omega)).trans (zfil_s' (by omega) (by omega))))),
    fun p hp => (zset_n (Or.inr (by decide))).trans ((zzero_n (by omega)).trans ((zset_n (Or.inr (by decide))).trans ((zzero_n (by omega)).trans ((zfil_n (by omega)).trans ((zset_n (Or.inr (by decide))).trans ((zzero_n (by omega)).trans ((zset_n (Or.inr (by decide))).trans ((zset_n (Or.inr (by decide))).trans (rfl))))))))),
    fun p hp => (zset_n (Or.inr (by decide))).trans ((zzero_n (by omega)).trans ((zset_n (Or.inr (by decide))).trans ((zzero_n (by omega)).trans ((zfil_n (by omega)).trans ((zset_n (Or.inr (by decide))).trans ((zzero_n (by omega)).trans ((zset_n (Or.inr (by decide))).trans ((zset_n (Or.inr (by decide))).trans (rfl))))))))),
    trivial⟩, by omega⟩
def NwX6 (lay l : zLay) (C c : zMem) (o : Int) : Prop := (∀ p, p < o → l p = lay p) ∧ (∀ p, p < o → c p = C p) ∧ (∀ p, p = o + 0 → l p = (7, 7)) ∧ (∀ p, p = o + 1 → l p = (100, 8)) ∧ (∀ p, p = o + 2 → l p = (100, 8)) ∧ (∀ p, p = o + 3 → l p = (100, 8)) ∧ (∀ p, p = o + 4 → l p = (100, 8)) ∧ (∀ p, p = o + 5 → l p = (100, 8)) ∧ (∀ p, p = o + 6 → l p = (100, 12)) ∧ (∀ p, p = o + 0 → c p 1 = o + 1) ∧ (∀ p, p = o + 0 → c p 2 = o + 2) ∧ (∀ p, p = o + 0 → c p 3 = o + 3) ∧ (∀ p, p = o + 0 → c p 4 = o + 4) ∧ (∀ p, p = o + 0 → c p 5 = o + 5) ∧ (∀ p, p = o + 0 → c p 6 = o + 6) ∧ (∀ p j, p = o + 6 → 0 ≤ j → j < 12 → c p j = -1) ∧ (∀ p, p = o → c p 0 = C p 0) ∧ (True)
theorem NwX6.bl {lay l : zLay} {C c : zMem} {o : Int} (h : NwX6 lay l C c o) : ∀ p, p < o → l p = lay p := h.1
theorem NwX6.bc {lay l : zLay} {C c : zMem} {o : Int} (h : NwX6 lay l C c o) : ∀ p, p < o → c p = C p := h.2.1
theorem NwX6.l0 {lay l : zLay} {C c : zMem} {o : Int} (h : NwX6 lay l C c o) : ∀ p, p = o + 0 → l p = (7, 7) := h.2.2.1
theorem NwX6.l1 {lay l : zLay} {C c : zMem} {o : Int} (h : NwX6 lay l C c o) : ∀ p, p = o + 1 → l p = (100, 8) := h.2.2.2.1
theorem NwX6.l2 {lay l : zLay} {C c : zMem} {o : Int} (h : NwX6 lay l C c o) : ∀ p, p = o + 2 → l p = (100, 8) := h.2.2.2.2.1
theorem NwX6.l3 {lay l : zLay} {C c : zMem} {o : Int} (h : NwX6 lay l C c o) : ∀ p, p = o + 3 → l p = (100, 8) := h.2.2.2.2.2.1
theorem NwX6.l4 {lay l : zLay} {C c : zMem} {o : Int} (h : NwX6 lay l C c o) : ∀ p, p = o + 4 → l p = (100, 8) := h.2.2.2.2.2.2.1
theorem NwX6.l5 {lay l : zLay} {C c : zMem} {o : Int} (h : NwX6 lay l C c o) : ∀ p, p = o + 5 → l p = (100, 8) := h.2.2.2.2.2.2.2.1
theorem NwX6.l6 {lay l : zLay} {C c : zMem} {o : Int} (h : NwX6 lay l C c o) : ∀ p, p = o + 6 → l p = (100, 12) := h.2.2.2.2.2.2.2.2.1
theorem NwX6.r0_1 {lay l : zLay} {C c : zMem} {o : Int} (h : NwX6 lay l C c o) : ∀ p, p = o + 0 → c p 1 = o + 1 := h.2.2.2.2.2.2.2.2.2.1
theorem NwX6.r0_2 {lay l : zLay} {C c : zMem} {o : Int} (h : NwX6 lay l C c o) : ∀ p, p = o + 0 → c p 2 = o + 2 := h.2.2.2.2.2.2.2.2.2.2.1
theorem NwX6.r0_3 {lay l : zLay} {C c : zMem} {o : Int} (h : NwX6 lay l C c o) : ∀ p, p = o + 0 → c p 3 = o + 3 := h.2.2.2.2.2.2.2.2.2.2.2.1
theorem NwX6.r0_4 {lay l : zLay} {C c : zMem} {o : Int} (h : NwX6 lay l C c o) : ∀ p, p = o + 0 → c p 4 = o + 4 := h.2.2.2.2.2.2.2.2.2.2.2.2.1
theorem NwX6.r0_5 {lay l : zLay} {C c : zMem} {o : Int} (h : NwX6 lay l C c o) : ∀ p, p = o + 0 → c p 5 = o + 5 := h.2.2.2.2.2.2.2.2.2.2.2.2.2.1
theorem NwX6.r0_6 {lay l : zLay} {C c : zMem} {o : Int} (h : NwX6 lay l C c o) : ∀ p, p = o + 0 → c p 6 = o + 6 := h.2.2.2.2.2.2.2.2.2.2.2.2.2.2.1
theorem NwX6.a6 {lay l : zLay} {C c : zMem} {o : Int} (h : NwX6 lay l C c o) : ∀ p j, p = o + 6 → 0 ≤ j → j < 12 → c p j = -1 := h.2.2.2.2.2.2.2.2.2.2.2.2.2.2.2.1
theorem NwX6.d0 {lay l : zLay} {C c : zMem} {o : Int} (h : NwX6 lay l C c o) : ∀ p, p = o → c p 0 = C p 0 := h.2.2.2.2.2.2.2.2.2.2.2.2.2.2.2.2.1
theorem NwX6.z {lay l : zLay} {C c : zMem} {o : Int} (h : NwX6 lay l C c o) : True := h.2.2.2.2.2.2.2.2.2.2.2.2.2.2.2.2.2
theorem n_X6 {G : zG} {lay : zLay} {C : zMem} {o : Int} (ho : lay o = (7, 7)) (h0 : 0 ≤ o) : zMM G 2 KX6_init [zP o] lay C (o + 1) (6, 52) (fun r l c m => r = .inl none ∧ NwX6 lay l C c o ∧ m = o + 7) := by
  refine z_met' (L := [zP o]) gX6_init.1 rfl rfl (Nat.le_of_ble_eq_true rfl) rfl ?_
  have hne : o ≠ -1 := by omega
  have ho' : ∀ p, p = o + 0 → lay p = (7, 7) := fun p hp => by rw [hp, Int.add_zero]; exact ho
  have hnm : KX6_init.1.name = "<init>" ∧ (vwCl[6]?).map (·.1) = some RX6 := ⟨rfl, rfl⟩
  refine z_al0 eX6_init_0 hne ?_
  refine z_objInit eX6_init_1 oX6_3 hne (Nat.le_of_ble_eq_true rfl) (Nat.le_of_ble_eq_true rfl) ?_
  refine z_al0 eX6_init_4 hne ?_
  refine z_bipush eX6_init_5 (by decide) ?_
  refine zW.mono (b' := (5 + 1, 44 + (8 : Int).toNat)) ⟨by decide, by decide⟩ ?_
  refine z_newi eX6_init_7 w_ai ⟨by decide, by decide⟩ ?_
  refine z_pfP (j := 1) lX6_9 eX6_init_9 rfl rfl ((zlay_o (by omega)).trans (ho' _ (by omega))) rfl hnm ?_
  refine z_al0 eX6_init_12 hne ?_
  refine z_bipush eX6_init_13 (by decide) ?_
  refine zW.mono (b' := (4 + 1, 36 + (8 : Int).toNat)) ⟨by decide, by decide⟩ ?_
  refine z_newi eX6_init_15 w_ai ⟨by decide, by decide⟩ ?_
  refine z_pfP (j := 2) lX6_15 eX6_init_17 rfl rfl ((zlay_o (by omega)).trans ((zlay_o (by omega)).trans (ho' _ (by omega)))) rfl hnm ?_
  refine z_al0 eX6_init_20 hne ?_
  refine z_bipush eX6_init_21 (by decide) ?_
  refine zW.mono (b' := (3 + 1, 28 + (8 : Int).toNat)) ⟨by decide, by decide⟩ ?_
  refine z_newi eX6_init_23 w_ai ⟨by decide, by decide⟩ ?_
  refine z_pfP (j := 3) lX6_18 eX6_init_25 rfl rfl ((zlay_o (by omega)).trans ((zlay_o (by omega)).trans ((zlay_o (by omega)).trans (ho' _ (by omega))))) rfl hnm ?_
  refine z_al0 eX6_init_28 hne ?_
  refine z_bipush eX6_init_29 (by decide) ?_
  refine zW.mono (b' := (2 + 1, 20 + (8 : Int).toNat)) ⟨by decide, by decide⟩ ?_
  refine z_newi eX6_init_31 w_ai ⟨by decide, by decide⟩ ?_
  refine z_pfP (j := 4) lX6_21 eX6_init_33 rfl rfl ((zlay_o (by omega)).trans ((zlay_o (by omega)).trans ((zlay_o (by omega)).trans ((zlay_o (by omega)).trans (ho' _ (by omega)))))) rfl hnm ?_
  refine z_al0 eX6_init_36 hne ?_
  refine z_bipush eX6_init_37 (by decide) ?_
  refine zW.mono (b' := (1 + 1, 12 + (8 : Int).toNat)) ⟨by decide, by decide⟩ ?_
  refine z_newi eX6_init_39 w_ai ⟨by decide, by decide⟩ ?_
  refine z_pfP (j := 5) lX6_24 eX6_init_41 rfl rfl ((zlay_o (by omega)).trans ((zlay_o (by omega)).trans ((zlay_o (by omega)).trans ((zlay_o (by omega)).trans ((zlay_o (by omega)).trans (ho' _ (by omega))))))) rfl hnm ?_
  refine z_al0 eX6_init_44 hne ?_
  refine z_bipush eX6_init_45 (by decide) ?_
  refine zW.mono (b' := (0 + 1, 0 + (12 : Int).toNat)) ⟨by decide, by decide⟩ ?_
  refine z_newi eX6_init_47 w_ai ⟨by decide, by decide⟩ ?_
  refine z_pfP (j := 6) lX6_27 eX6_init_49 rfl rfl ((zlay_o (by omega)).trans ((zlay_o (by omega)).trans ((zlay_o (by omega)).trans ((zlay_o (by omega)).trans ((zlay_o (by omega)).trans ((zlay_o (by omega)).trans (ho' _ (by omega)))))))) rfl hnm ?_
  refine z_al0 eX6_init_52 hne ?_
  refine z_gfP (v := o + 1 + 1 + 1 + 1 + 1 + 1) lX6_27 eX6_init_53 rfl ((zlay_o (by omega)).trans ((zlay_o (by omega)).trans ((zlay_o (by omega)).trans ((zlay_o (by omega)).trans ((zlay_o (by omega)).trans ((zlay_o (by omega)).trans (ho' _ (by omega)))))))) ((zset_s' (by omega)).trans (by omega)) ?_
  refine z_iconst eX6_init_56 ?_
  refine z_S2v eX6_init_57 vX6_30 rfl rfl (Nat.le_of_ble_eq_true rfl) (Nat.le_of_ble_eq_true rfl) (c_J7_fill_53178 (by omega) (zlay_s' (by omega)) ⟨by decide, by decide⟩) ?_
  refine z_return eX6_init_60 rfl ?_
  exact ⟨rfl, ⟨fun p hp => (zlay_o (by omega)).trans ((zlay_o (by omega)).trans ((zlay_o (by omega)).trans ((zlay_o (by omega)).trans ((zlay_o (by omega)).trans ((zlay_o (by omega)).trans (rfl)))))),
    fun p hp => (zfil_o (by omega)).trans ((zset_o (by omega)).trans ((zzero_o (by omega)).trans ((zset_o (by omega)).trans ((zzero_o (by omega)).trans ((zset_o (by omega)).trans ((zzero_o (by omega)).trans ((zset_o (by omega)).trans ((zzero_o (by omega)).trans ((zset_o (by omega)).trans ((zzero_o (by omega)).trans ((zset_o (by omega)).trans ((zzero_o (by omega)).trans (rfl))))))))))))),
    fun p hp => (zlay_o (by omega)).trans ((zlay_o (by omega)).trans ((zlay_o (by omega)).trans ((zlay_o (by omega)).trans ((zlay_o (by omega)).trans ((zlay_o (by omega)).trans (ho' _ (by omega))))))),
    fun p hp => (zlay_o (by omega)).trans ((zlay_o (by omega)).trans ((zlay_o (by omega)).trans ((zlay_o (by omega)).trans ((zlay_o (by omega)).trans (zlay_s' (by omega)))))),
    fun p hp => (zlay_o (by omega)).trans ((zlay_o (by omega)).trans ((zlay_o (by omega)).trans ((zlay_o (by omega)).trans (zlay_s' (by omega))))),
    fun p hp => (zlay_o (by omega)).trans ((zlay_o (by omega)).trans ((zlay_o (by omega)).trans (zlay_s' (by omega)))),
    fun p hp => (zlay_o (by omega)).trans ((zlay_o (by omega)).trans (zlay_s' (by omega))),
    fun p hp => (zlay_o (by omega)).trans (zlay_s' (by omega)),
    fun p hp => zlay_s' (by omega),
    fun p hp => (zfil_n (by omega)).trans ((zset_n (Or.inr (by decide))).trans ((zzero_n (by omega)).trans ((zset_n (Or.inr (by decide))).trans ((zzero_n (by omega)).trans ((zset_n (Or.inr (by decide))).trans ((zzero_n (by omega)).trans ((zset_n (Or.inr (by decide))).trans ((zzero_n (by omega)).trans ((zset_n (Or.inr (by decide))).trans ((zzero_n (by omega)).trans ((zset_s' (by omega)).trans (by omega)))))))))))),
    fun p hp => (zfil_n (by omega)).trans ((zset_n (Or.inr (by decide))).trans ((zzero_n (by omega)).trans ((zset_n (Or.inr (by decide))).trans ((zzero_n (by omega)).trans ((zset_n (Or.inr (by decide))).trans ((zzero_n (by omega)).trans ((zset_n (Or.inr (by decide))).trans ((zzero_n (by omega)).trans ((zset_s' (by omega)).trans (by omega)))))))))),
    fun p hp => (zfil_n (by omega)).trans ((zset_n (Or.inr (by decide))).trans ((zzero_n (by omega)).trans ((zset_n (Or.inr (by decide))).trans ((zzero_n (by omega)).trans ((zset_n (Or.inr (by decide))).trans ((zzero_n (by omega)).trans ((zset_s' (by omega)).trans (by omega)))))))),
    fun p hp => (zfil_n (by omega)).trans ((zset_n (Or.inr (by decide))).trans ((zzero_n (by omega)).trans ((zset_n (Or.inr (by decide))).trans ((zzero_n (by omega)).trans ((zset_s' (by omega)).trans (by omega)))))),
    fun p hp => (zfil_n (by omega)).trans ((zset_n (Or.inr (by decide))).trans ((zzero_n (by omega)).trans ((zset_s' (by omega)).trans (by omega)))),
    fun p hp => (zfil_n (by omega)).trans ((zset_s' (by omega)).trans (by omega)),
    fun p j hp hj0 hj1 => zfil_s' (by omega) (by omega),
    fun p hp => (zfil_n (by omega)).trans ((zset_n (Or.inr (by decide))).trans ((zzero_n (by omega)).trans ((zset_n (Or.inr (by decide))).trans ((zzero_n (by omega)).trans ((zset_n (Or.inr (by decide))).trans ((zzero_n (by omega)).trans ((zset_n (Or.inr (by decide))).trans ((zzero_n (by omega)).trans ((zset_n (Or.inr (by decide))).trans ((zzero_n (by omega)).trans ((zset_n (Or.inr (by decide))).trans ((zzero_n (by omega)).trans (rfl))))))))))))),
    trivial⟩, by omega⟩
def NwX5 (lay l : zLay) (C c : zMem) (o : Int) : Prop := (∀ p, p < o → l p = lay p) ∧ (∀ p, p < o → c p = C p) ∧ (∀ p, p = o + 0 → l p = (6, 2)) ∧ (∀ p, p = o + 1 → l p = (100, 300)) ∧ (∀ p, p = o + 0 → c p 1 = o + 1) ∧ (∀ p, p = o → c p 0 = C p 0) ∧ (True)
theorem NwX5.bl {lay l : zLay} {C c : zMem} {o : Int} (h : NwX5 lay l C c o) : ∀ p, p < o → l p = lay p := h.1
theorem NwX5.bc {lay l : zLay} {C c : zMem} {o : Int} (h : NwX5 lay l C c o) : ∀ p, p < o → c p = C p := h.2.1
theorem NwX5.l0 {lay l : zLay} {C c : zMem} {o : Int} (h : NwX5 lay l C c o) : ∀ p, p = o + 0 → l p = (6, 2) := h.2.2.1
theorem NwX5.l1 {lay l : zLay} {C c : zMem} {o : Int} (h : NwX5 lay l C c o) : ∀ p, p = o + 1 → l p = (100, 300) := h.2.2.2.1
theorem NwX5.r0_1 {lay l : zLay} {C c : zMem} {o : Int} (h : NwX5 lay l C c o) : ∀ p, p = o + 0 → c p 1 = o + 1 := h.2.2.2.2.1
theorem NwX5.d0 {lay l : zLay} {C c : zMem} {o : Int} (h : NwX5 lay l C c o) : ∀ p, p = o → c p 0 = C p 0 := h.2.2.2.2.2.1
theorem NwX5.z {lay l : zLay} {C c : zMem} {o : Int} (h : NwX5 lay l C c o) : True := h.2.2.2.2.2.2
theorem n_X5 {G : zG} {lay : zLay} {C : zMem} {o : Int} (ho : lay o = (6, 2)) (h0 : 0 ≤ o) : zMM G 2 KX5_init [zP o] lay C (o + 1) (1, 300) (fun r l c m => r = .inl none ∧ NwX5 lay l C c o ∧ m = o + 2) := by
  refine z_met' (L := [zP o]) gX5_init.1 rfl rfl (Nat.le_of_ble_eq_true rfl) rfl ?_
  have hne : o ≠ -1 := by omega
  have ho' : ∀ p, p = o + 0 → lay p = (6, 2) := fun p hp => by rw [hp, Int.add_zero]; exact ho
  have hnm : KX5_init.1.name = "<init>" ∧ (vwCl[5]?).map (·.1) = some RX5 := ⟨rfl, rfl⟩
  refine z_al0 eX5_init_0 hne ?_
  refine z_objInit eX5_init_1 oX5_3 hne (Nat.le_of_ble_eq_true rfl) (Nat.le_of_ble_eq_true rfl) ?_
  refine z_al0 eX5_init_4 hne ?_
  refine z_sipush eX5_init_5 (by decide) ?_
  refine zW.mono (b' := (0 + 1, 0 + (300 : Int).toNat)) ⟨by decide, by decide⟩ ?_
  refine z_newi eX5_init_8 w_ai ⟨by decide, by decide⟩ ?_
  refine z_pfP (j := 1) lX5_11 eX5_init_10 rfl rfl ((zlay_o (by omega)).trans (ho' _ (by omega))) rfl hnm ?_
  refine z_return eX5_init_13 rfl ?_
  exact ⟨rfl, ⟨fun p hp => (zlay_o (by omega)).trans (rfl),
    fun p hp => (zset_o (by omega)).trans ((zzero_o (by omega)).trans (rfl)),
    fun p hp => (zlay_o (by omega)).trans (ho' _ (by omega)),
    fun p hp => zlay_s' (by omega),
    fun p hp => (zset_s' (by omega)).trans (by omega),
    fun p hp => (zset_n (Or.inr (by decide))).trans ((zzero_n (by omega)).trans (rfl)),
    trivial⟩, by omega⟩
def NwX1 (lay l : zLay) (C c : zMem) (o : Int) : Prop := (∀ p, p < o → l p = lay p) ∧ (∀ p, p < o → c p = C p) ∧ (∀ p, p = o + 0 → l p = (2, 15)) ∧ (∀ p, p = o + 1 → l p = (100, 7)) ∧ (∀ p, p = o + 2 → l p = (100, 7)) ∧ (∀ p, p = o + 3 → l p = (100, 8)) ∧ (∀ p, p = o + 4 → l p = (10, 7)) ∧ (∀ p, p = o + 5 → l p = (100, 25)) ∧ (∀ p, p = o + 6 → l p = (100, 5)) ∧ (∀ p, p = o + 7 → l p = (100, 5)) ∧ (∀ p, p = o + 8 → l p = (7, 7)) ∧ (∀ p, p = o + 9 → l p = (100, 8)) ∧ (∀ p, p = o + 10 → l p = (100, 8)) ∧ (∀ p, p = o + 11 → l p = (100, 8)) ∧ (∀ p, p = o + 12 → l p = (100, 8)) ∧ (∀ p, p = o + 13 → l p = (100, 8)) ∧ (∀ p, p = o + 14 → l p = (100, 12)) ∧ (∀ p, p = o + 15 → l p = (6, 2)) ∧ (∀ p, p = o + 16 → l p = (100, 300)) ∧ (∀ p, p = o + 17 → l p = (100, 10)) ∧ (∀ p, p = o + 0 → c p 2 = o + 1) ∧ (∀ p, p = o + 0 → c p 3 = o + 2) ∧ (∀ p, p = o + 0 → c p 6 = o + 3) ∧ (∀ p, p = o + 4 → c p 4 = o + 5) ∧ (∀ p, p = o + 4 → c p 5 = o + 6) ∧ (∀ p, p = o + 4 → c p 6 = o + 7) ∧ (∀ p, p = o + 0 → c p 11 = o + 4) ∧ (∀ p, p = o + 8 → c p 1 = o + 9) ∧ (∀ p, p = o + 8 → c p 2 = o + 10) ∧ (∀ p, p = o + 8 → c p 3 = o + 11) ∧ (∀ p, p = o + 8 → c p 4 = o + 12) ∧ (∀ p, p = o + 8 → c p 5 = o + 13) ∧ (∀ p, p = o + 8 → c p 6 = o + 14) ∧ (∀ p, p = o + 0 → c p 12 = o + 8) ∧ (∀ p, p = o + 15 → c p 1 = o + 16) ∧ (∀ p, p = o + 0 → c p 13 = o + 15) ∧ (∀ p, p = o + 0 → c p 14 = o + 17) ∧ (∀ p, p = o + 0 → c p 7 = 1) ∧ (∀ p, p = o + 0 → c p 8 = 3) ∧ (∀ p, p = o + 0 → c p 9 = 3) ∧ (∀ p, p = o + 4 → c p 0 = 1) ∧ (∀ p, p = o + 4 → c p 1 = 0) ∧ (∀ p, p = o + 4 → c p 2 = 0) ∧ (∀ p, p = o + 4 → c p 3 = 1) ∧ (∀ p, p = o + 8 → c p 0 = 0) ∧ (∀ p, p = o + 15 → c p 0 = 0) ∧ (∀ p j, p = o + 3 → 0 ≤ j → j < 8 → c p j = 5) ∧ (∀ p j, p = o + 5 → 0 ≤ j → j < 25 → c p j = 1) ∧ (∀ p j, p = o + 14 → 0 ≤ j → j < 12 → c p j = -1) ∧ (∀ p, p = o → c p 0 = C p 0) ∧ (∀ p, p = o → c p 1 = C p 1) ∧ (∀ p, p = o → c p 4 = C p 4) ∧ (∀ p, p = o → c p 5 = C p 5) ∧ (∀ p, p = o → c p 10 = C p 10) ∧ (True)
theorem NwX1.bl {lay l : zLay} {C c : zMem} {o : Int} (h : NwX1 lay l C c o) : ∀ p, p < o → l p = lay p := h.1
theorem NwX1.bc {lay l : zLay} {C c : zMem} {o : Int} (h : NwX1 lay l C c o) : ∀ p, p < o → c p = C p := h.2.1
theorem NwX1.l0 {lay l : zLay} {C c : zMem} {o : Int} (h : NwX1 lay l C c o) : ∀ p, p = o + 0 → l p = (2, 15) := h.2.2.1
theorem NwX1.l1 {lay l : zLay} {C c : zMem} {o : Int} (h : NwX1 lay l C c o) : ∀ p, p = o + 1 → l p = (100, 7) := h.2.2.2.1
theorem NwX1.l2 {lay l : zLay} {C c : zMem} {o : Int} (h : NwX1 lay l C c o) : ∀ p, p = o + 2 → l p = (100, 7) := h.2.2.2.2.1
theorem NwX1.l3 {lay l : zLay} {C c : zMem} {o : Int} (h : NwX1 lay l C c o) : ∀ p, p = o + 3 → l p = (100, 8) := h.2.2.2.2.2.1
theorem NwX1.l4 {lay l : zLay} {C c : zMem} {o : Int} (h : NwX1 lay l C c o) : ∀ p, p = o + 4 → l p = (10, 7) := h.2.2.2.2.2.2.1
theorem NwX1.l5 {lay l : zLay} {C c : zMem} {o : Int} (h : NwX1 lay l C c o) : ∀ p, p = o + 5 → l p = (100, 25) := h.2.2.2.2.2.2.2.1
theorem NwX1.l6 {lay l : zLay} {C c : zMem} {o : Int} (h : NwX1 lay l C c o) : ∀ p, p = o + 6 → l p = (100, 5) := h.2.2.2.2.2.2.2.2.1
theorem NwX1.l7 {lay l : zLay} {C c : zMem} {o : Int} (h : NwX1 lay l C c o) : ∀ p, p = o + 7 → l p = (100, 5) := h.2.2.2.2.2.2.2.2.2.1
theorem NwX1.l8 {lay l : zLay} {C c : zMem} {o : Int} (h : NwX1 lay l C c o) : ∀ p, p = o + 8 → l p = (7, 7) := h.2.2.2.2.2.2.2.2.2.2.1
theorem NwX1.l9 {lay l : zLay} {C c : zMem} {o : Int} (h : NwX1 lay l C c o) : ∀ p, p = o + 9 → l p = (100, 8) := h.2.2.2.2.2.2.2.2.2.2.2.1
theorem NwX1.l10 {lay l : zLay} {C c : zMem} {o : Int} (h : NwX1 lay l C c o) : ∀ p, p = o + 10 → l p = (100, 8) := h.2.2.2.2.2.2.2.2.2.2.2.2.1
theorem NwX1.l11 {lay l : zLay} {C c : zMem} {o : Int} (h : NwX1 lay l C c o) : ∀ p, p = o + 11 → l p = (100, 8) := h.2.2.2.2.2.2.2.2.2.2.2.2.2.1
theorem NwX1.l12 {lay l : zLay} {C c : zMem} {o : Int} (h : NwX1 lay l C c o) : ∀ p, p = o + 12 → l p = (100, 8) := h.2.2.2.2.2.2.2.2.2.2.2.2.2.2.1
theorem NwX1.l13 {lay l : zLay} {C c : zMem} {o : Int} (h : NwX1 lay l C c o) : ∀ p, p = o + 13 → l p = (100, 8) := h.2.2.2.2.2.2.2.2.2.2.2.2.2.2.2.1
theorem NwX1.l14 {lay l : zLay} {C c : zMem} {o : Int} (h : NwX1 lay l C c o) : ∀ p, p = o + 14 → l p = (100, 12) := h.2.2.2.2.2.2.2.2.2.2.2.2.2.2.2.2.1
theorem NwX1.l15 {lay l : zLay} {C c : zMem} {o : Int} (h : NwX1 lay l C c o) : ∀ p, p = o + 15 → l p = (6, 2) := h.2.2.2.2.2.2.2.2.2.2.2.2.2.2.2.2.2.1
theorem NwX1.l16 {lay l : zLay} {C c : zMem} {o : Int} (h : NwX1 lay l C c o) : ∀ p, p = o + 16 → l p = (100, 300) := h.2.2.2.2.2.2.2.2.2.2.2.2.2.2.2.2.2.2.1
theorem NwX1.l17 {lay l : zLay} {C c : zMem} {o : Int} (h : NwX1 lay l C c o) : ∀ p, p = o + 17 → l p = (100, 10) := h.2.2.2.2.2.2.2.2.2.2.2.2.2.2.2.2.2.2.2.1
theorem NwX1.r0_2 {lay l : zLay} {C c : zMem} {o : Int} (h : NwX1 lay l C c o) : ∀ p, p = o + 0 → c p 2 = o + 1 := h.2.2.2.2.2.2.2.2.2.2.2.2.2.2.2.2.2.2.2.2.1
theorem NwX1.r0_3 {lay l : zLay} {C c : zMem} {o : Int} (h : NwX1 lay l C c o) : ∀ p, p = o + 0 → c p 3 = o + 2 := h.2.2.2.2.2.2.2.2.2.2.2.2.2.2.2.2.2.2.2.2.2.1
theorem NwX1.r0_6 {lay l : zLay} {C c : zMem} {o : Int} (h : NwX1 lay l C c o) : ∀ p, p = o + 0 → c p 6 = o + 3 := h.2.2.2.2.2.2.2.2.2.2.2.2.2.2.2.2.2.2.2.2.2.2.1
theorem NwX1.r4_4 {lay l : zLay} {C c : zMem} {o : Int} (h : NwX1 lay l C c o) : ∀ p, p = o + 4 → c p 4 = o + 5 := h.2.2.2.2.2.2.2.2.2.2.2.2.2.2.2.2.2.2.2.2.2.2.2.1
theorem NwX1.r4_5 {lay l : zLay} {C c : zMem} {o : Int} (h : NwX1 lay l C c o) : ∀ p, p = o + 4 → c p 5 = o + 6 := h.2.2.2.2.2.2.2.2.2.2.2.2.2.2.2.2.2.2.2.2.2.2.2.2.1
theorem NwX1.r4_6 {lay l : zLay} {C c : zMem} {o : Int} (h : NwX1 lay l C c o) : ∀ p, p = o + 4 → c p 6 = o + 7 := h.2.2.2.2.2.2.2.2.2.2.2.2.2.2.2.2.2.2.2.2.2.2.2.2.2.1
theorem NwX1.r0_11 {lay l : zLay} {C c : zMem} {o : Int} (h : NwX1 lay l C c o) : ∀ p, p = o + 0 → c p 11 = o + 4 := h.2.2.2.2.2.2.2.2.2.2.2.2.2.2.2.2.2.2.2.2.2.2.2.2.2.2.1
theorem NwX1.r8_1 {lay l : zLay} {C c : zMem} {o : Int} (h : NwX1 lay l C c o) : ∀ p, p = o + 8 → c p 1 = o + 9 := h.2.2.2.2.2.2.2.2.2.2.2.2.2.2.2.2.2.2.2.2.2.2.2.2.2.2.2.1
theorem NwX1.r8_2 {lay l : zLay} {C c : zMem} {o : Int} (h : NwX1 lay l C c o) : ∀ p, p = o + 8 → c p 2 = o + 10 := h.2.2.2.2.2.2.2.2.2.2.2.2.2.2.2.2.2.2.2.2.2.2.2.2.2.2.2.2.1
theorem NwX1.r8_3 {lay l : zLay} {C c : zMem} {o : Int} (h : NwX1 lay l C c o) : ∀ p, p = o + 8 → c p 3 = o + 11 := h.2.2.2.2.2.2.2.2.2.2.2.2.2.2.2.2.2.2.2.2.2.2.2.2.2.2.2.2.2.1
theorem NwX1.r8_4 {lay l : zLay} {C c : zMem} {o : Int} (h : NwX1 lay l C c o) : ∀ p, p = o + 8 → c p 4 = o + 12 := h.2.2.2.2.2.2.2.2.2.2.2.2.2.2.2.2.2.2.2.2.2.2.2.2.2.2.2.2.2.2.1
theorem NwX1.r8_5 {lay l : zLay} {C c : zMem} {o : Int} (h : NwX1 lay l C c o) : ∀ p, p = o + 8 → c p 5 = o + 13 := h.2.2.2.2.2.2.2.2.2.2.2.2.2.2.2.2.2.2.2.2.2.2.2.2.2.2.2.2.2.2.2.1
theorem NwX1.r8_6 {lay l : zLay} {C c : zMem} {o : Int} (h : NwX1 lay l C c o) : ∀ p, p = o + 8 → c p 6 = o + 14 := h.2.2.2.2.2.2.2.2.2.2.2.2.2.2.2.2.2.2.2.2.2.2.2.2.2.2.2.2.2.2.2.2.1
theorem NwX1.r0_12 {lay l : zLay} {C c : zMem} {o : Int} (h : NwX1 lay l C c o) : ∀ p, p = o + 0 → c p 12 = o + 8 := h.2.2.2.2.2.2.2.2.2.2.2.2.2.2.2.2.2.2.2.2.2.2.2.2.2.2.2.2.2.2.2.2.2.1
theorem NwX1.r15_1 {lay l : zLay} {C c : zMem} {o : Int} (h : NwX1 lay l C c o) : ∀ p, p = o + 15 → c p 1 = o + 16 := h.2.2.2.2.2.2.2.2.2.2.2.2.2.2.2.2.2.2.2.2.2.2.2.2.2.2.2.2.2.2.2.2.2.2.1
theorem NwX1.r0_13 {lay l : zLay} {C c : zMem} {o : Int} (h : NwX1 lay l C c o) : ∀ p, p = o + 0 → c p 13 = o + 15 := h.2.2.2.2.2.2.2.2.2.2.2.2.2.2.2.2.2.2.2.2.2.2.2.2.2.2.2.2.2.2.2.2.2.2.2.1
theorem NwX1.r0_14 {lay l : zLay} {C c : zMem} {o : Int} (h : NwX1 lay l C c o) : ∀ p, p = o + 0 → c p 14 = o + 17 := h.2.2.2.2.2.2.2.2.2.2.2.2.2.2.2.2.2.2.2.2.2.2.2.2.2.2.2.2.2.2.2.2.2.2.2.2.1
theorem NwX1.v0_7 {lay l : zLay} {C c : zMem} {o : Int} (h : NwX1 lay l C c o) : ∀ p, p = o + 0 → c p 7 = 1 := h.2.2.2.2.2.2.2.2.2.2.2.2.2.2.2.2.2.2.2.2.2.2.2.2.2.2.2.2.2.2.2.2.2.2.2.2.2.1
theorem NwX1.v0_8 {lay l : zLay} {C c : zMem} {o : Int} (h : NwX1 lay l C c o) : ∀ p, p = o + 0 → c p 8 = 3 := h.2.2.2.2.2.2.2.2.2.2.2.2.2.2.2.2.2.2.2.2.2.2.2.2.2.2.2.2.2.2.2.2.2.2.2.2.2.2.1
theorem NwX1.v0_9 {lay l : zLay} {C c : zMem} {o : Int} (h : NwX1 lay l C c o) : ∀ p, p = o + 0 → c p 9 = 3 := h.2.2.2.2.2.2.2.2.2.2.2.2.2.2.2.2.2.2.2.2.2.2.2.2.2.2.2.2.2.2.2.2.2.2.2.2.2.2.2.1
theorem NwX1.v4_0 {lay l : zLay} {C c : zMem} {o : Int} (h : NwX1 lay l C c o) : ∀ p, p = o + 4 → c p 0 = 1 := h.2.2.2.2.2.2.2.2.2.2.2.2.2.2.2.2.2.2.2.2.2.2.2.2.2.2.2.2.2.2.2.2.2.2.2.2.2.2.2.2.1
theorem NwX1.v4_1 {lay l : zLay} {C c : zMem} {o : Int} (h : NwX1 lay l C c o) : ∀ p, p = o + 4 → c p 1 = 0 := h.2.2.2.2.2.2.2.2.2.2.2.2.2.2.2.2.2.2.2.2.2.2.2.2.2.2.2.2.2.2.2.2.2.2.2.2.2.2.2.2.2.1
theorem NwX1.v4_2 {lay l : zLay} {C c : zMem} {o : Int} (h : NwX1 lay l C c o) : ∀ p, p = o + 4 → c p 2 = 0 := h.2.2.2.2.2.2.2.2.2.2.2.2.2.2.2.2.2.2.2.2.2.2.2.2.2.2.2.2.2.2.2.2.2.2.2.2.2.2.2.2.2.2.1
theorem NwX1.v4_3 {lay l : zLay} {C c : zMem} {o : Int} (h : NwX1 lay l C c o) : ∀ p, p = o + 4 → c p 3 = 1 := h.2.2.2.2.2.2.2.2.2.2.2.2.2.2.2.2.2.2.2.2.2.2.2.2.2.2.2.2.2.2.2.2.2.2.2.2.2.2.2.2.2.2.2.1
theorem NwX1.v8_0 {lay l : zLay} {C c : zMem} {o : Int} (h : NwX1 lay l C c o) : ∀ p, p = o + 8 → c p 0 = 0 := h.2.2.2.2.2.2.2.2.2.2.2.2.2.2.2.2.2.2.2.2.2.2.2.2.2.2.2.2.2.2.2.2.2.2.2.2.2.2.2.2.2.2.2.2.1
theorem NwX1.v15_0 {lay l : zLay} {C c : zMem} {o : Int} (h : NwX1 lay l C c o) : ∀ p, p = o + 15 → c p 0 = 0 := h.2.2.2.2.2.2.2.2.2.2.2.2.2.2.2.2.2.2.2.2.2.2.2.2.2.2.2.2.2.2.2.2.2.2.2.2.2.2.2.2.2.2.2.2.2.1
theorem NwX1.a3 {lay l : zLay} {C c : zMem} {o : Int} (h : NwX1 lay l C c o) : ∀ p j, p = o + 3 → 0 ≤ j → j < 8 → c p j = 5 := h.2.2.2.2.2.2.2.2.2.2.2.2.2.2.2.2.2.2.2.2.2.2.2.2.2.2.2.2.2.2.2.2.2.2.2.2.2.2.2.2.2.2.2.2.2.2.1
theorem NwX1.a5 {lay l : zLay} {C c : zMem} {o : Int} (h : NwX1 lay l C c o) : ∀ p j, p = o + 5 → 0 ≤ j → j < 25 → c p j = 1 := h.2.2.2.2.2.2.2.2.2.2.2.2.2.2.2.2.2.2.2.2.2.2.2.2.2.2.2.2.2.2.2.2.2.2.2.2.2.2.2.2.2.2.2.2.2.2.2.1
theorem NwX1.a14 {lay l : zLay} {C c : zMem} {o : Int} (h : NwX1 lay l C c o) : ∀ p j, p = o + 14 → 0 ≤ j → j < 12 → c p j = -1 := h.2.2.2.2.2.2.2.2.2.2.2.2.2.2.2.2.2.2.2.2.2.2.2.2.2.2.2.2.2.2.2.2.2.2.2.2.2.2.2.2.2.2.2.2.2.2.2.2.1
theorem NwX1.d0 {lay l : zLay} {C c : zMem} {o : Int} (h : NwX1 lay l C c o) : ∀ p, p = o → c p 0 = C p 0 := h.2.2.2.2.2.2.2.2.2.2.2.2.2.2.2.2.2.2.2.2.2.2.2.2.2.2.2.2.2.2.2.2.2.2.2.2.2.2.2.2.2.2.2.2.2.2.2.2.2.1
theorem NwX1.d1 {lay l : zLay} {C c : zMem} {o : Int} (h : NwX1 lay l C c o) : ∀ p, p = o → c p 1 = C p 1 := h.2.2.2.2.2.2.2.2.2.2.2.2.2.2.2.2.2.2.2.2.2.2.2.2.2.2.2.2.2.2.2.2.2.2.2.2.2.2.2.2.2.2.2.2.2.2.2.2.2.2.1
theorem NwX1.d4 {lay l : zLay} {C c : zMem} {o : Int} (h : NwX1 lay l C c o) : ∀ p, p = o → c p 4 = C p 4 := h.2.2.2.2.2.2.2.2.2.2.2.2.2.2.2.2.2.2.2.2.2.2.2.2.2.2.2.2.2.2.2.2.2.2.2.2.2.2.2.2.2.2.2.2.2.2.2.2.2.2.2.1
theorem NwX1.d5 {lay l : zLay} {C c : zMem} {o : Int} (h : NwX1 lay l C c o) : ∀ p, p = o → c p 5 = C p 5 := h.2.2.2.2.2.2.2.2.2.2.2.2.2.2.2.2.2.2.2.2.2.2.2.2.2.2.2.2.2.2.2.2.2.2.2.2.2.2.2.2.2.2.2.2.2.2.2.2.2.2.2.2.1
theorem NwX1.d10 {lay l : zLay} {C c : zMem} {o : Int} (h : NwX1 lay l C c o) : ∀ p, p = o → c p 10 = C p 10 := h.2.2.2.2.2.2.2.2.2.2.2.2.2.2.2.2.2.2.2.2.2.2.2.2.2.2.2.2.2.2.2.2.2.2.2.2.2.2.2.2.2.2.2.2.2.2.2.2.2.2.2.2.2.1
theorem NwX1.z {lay l : zLay} {C c : zMem} {o : Int} (h : NwX1 lay l C c o) : True := h.2.2.2.2.2.2.2.2.2.2.2.2.2.2.2.2.2.2.2.2.2.2.2.2.2.2.2.2.2.2.2.2.2.2.2.2.2.2.2.2.2.2.2.2.2.2.2.2.2.2.2.2.2.2
theorem n_X1 {G : zG} {lay : zLay} {C : zMem} {o : Int} (ho : lay o = (2, 15)) (h0 : 0 ≤ o) : zMM G 3 KX1_init [zP o] lay C (o + 1) (17, 435) (fun r l c m => r = .inl none ∧ NwX1 lay l C c o ∧ m = o + 18) := by
  refine z_met' (L := [zP o]) gX1_init.1 rfl rfl (Nat.le_of_ble_eq_true rfl) rfl ?_
  have hne : o ≠ -1 := by omega
  have ho' : ∀ p, p = o + 0 → lay p = (2, 15) := fun p hp => by rw [hp, Int.add_zero]; exact ho
  have hnm : KX1_init.1.name = "<init>" ∧ (vwCl[1]?).map (·.1) = some RX1 := ⟨rfl, rfl⟩
  refine z_al0 eX1_init_0 hne ?_
  refine z_objInit eX1_init_1 oX1_3 hne (Nat.le_of_ble_eq_true rfl) (Nat.le_of_ble_eq_true rfl) ?_
  refine z_al0 eX1_init_4 hne ?_
  refine z_bipush eX1_init_5 (by decide) ?_
  refine zW.mono (b' := (16 + 1, 428 + (7 : Int).toNat)) ⟨by decide, by decide⟩ ?_
  refine z_newi eX1_init_7 w_ai ⟨by decide, by decide⟩ ?_
  refine z_pfP (j := 2) lX1_9 eX1_init_9 rfl rfl ((zlay_o (by omega)).trans (ho' _ (by omega))) rfl hnm ?_
  refine z_al0 eX1_init_12 hne ?_
  refine z_bipush eX1_init_13 (by decide) ?_
  refine zW.mono (b' := (15 + 1, 421 + (7 : Int).toNat)) ⟨by decide, by decide⟩ ?_
  refine z_newi eX1_init_15 w_ai ⟨by decide, by decide⟩ ?_
  refine z_pfP (j := 3) lX1_15 eX1_init_17 rfl rfl ((zlay_o (by omega)).trans ((zlay_o (by omega)).trans (ho' _ (by omega)))) rfl hnm ?_
  refine z_al0 eX1_init_20 hne ?_
  refine z_bipush eX1_init_21 (by decide) ?_
  refine zW.mono (b' := (14 + 1, 413 + (8 : Int).toNat)) ⟨by decide, by decide⟩ ?_
  refine z_newi eX1_init_23 w_ai ⟨by decide, by decide⟩ ?_
  refine z_pfP (j := 6) lX1_18 eX1_init_25 rfl rfl ((zlay_o (by omega)).trans ((zlay_o (by omega)).trans ((zlay_o (by omega)).trans (ho' _ (by omega))))) rfl hnm ?_
  refine z_al0 eX1_init_28 hne ?_
  refine z_gfP (v := o + 1 + 1 + 1) lX1_18 eX1_init_29 rfl ((zlay_o (by omega)).trans ((zlay_o (by omega)).trans ((zlay_o (by omega)).trans (ho' _ (by omega))))) ((zset_s' (by omega)).trans (by omega)) ?_
  refine z_iconst eX1_init_32 ?_
  refine z_S2v eX1_init_33 vX1_21 rfl rfl (Nat.le_of_ble_eq_true rfl) (Nat.le_of_ble_eq_true rfl) (c_J7_fill_53178 (by omega) (zlay_s' (by omega)) ⟨by decide, by decide⟩) ?_
  refine z_al0 eX1_init_36 hne ?_
  refine z_iconst eX1_init_37 ?_
  refine z_pfI (j := 7) lX1_27 eX1_init_38 rfl ((zlay_o (by omega)).trans ((zlay_o (by omega)).trans ((zlay_o (by omega)).trans (ho' _ (by omega))))) rfl hnm ?_
  refine z_al0 eX1_init_41 hne ?_
  refine z_iconst eX1_init_42 ?_
  refine z_pfI (j := 8) lX1_31 eX1_init_43 rfl ((zlay_o (by omega)).trans ((zlay_o (by omega)).trans ((zlay_o (by omega)).trans (ho' _ (by omega))))) rfl hnm ?_
  refine z_al0 eX1_init_46 hne ?_
  refine z_iconst eX1_init_47 ?_
  refine z_pfI (j := 9) lX1_34 eX1_init_48 rfl ((zlay_o (by omega)).trans ((zlay_o (by omega)).trans ((zlay_o (by omega)).trans (ho' _ (by omega))))) rfl hnm ?_
  refine z_al0 eX1_init_51 hne ?_
  refine zW.mono (b' := (13 + 1, 406 + 7)) ⟨by decide, by decide⟩ ?_
  refine z_new (ci := 9) eX1_init_52 rfl rfl nX1_37.1 nX1_37.2.1 nX1_37.2.2 ?_
  refine z_dup eX1_init_55 (Nat.ne_of_beq_eq_false rfl) ?_
  refine zW.mono (b' := (3 + 10, 35 + 371)) ⟨by decide, by decide⟩ ?_
  refine z_callI (b' := (3, 35)) (b'' := (10, 371)) (av := []) (st := [zP (o + 1 + 1 + 1 + 1), zP (o)]) eX1_init_56 vX1_39.1 vX1_39.2.1 vX1_39.2.2 (n_X9 (zlay_s' (by omega)) (by omega)) (Nat.le_of_ble_eq_true rfl) (by omega) rfl (Nat.le_of_ble_eq_true rfl) (fun r l1 c1 m1 q => ?_) (fun E9 l9 c9 m9 q => by obtain ⟨q1, q2⟩ := q; cases q1)
  obtain ⟨q1, h1, hm1⟩ := q
  have e9 := Sum.inl.inj q1
  subst e9
  subst hm1
  refine z_pfP (j := 11) lX1_40 eX1_init_59 rfl rfl ((h1.bl _ (by omega)).trans ((zlay_o (by omega)).trans ((zlay_o (by omega)).trans ((zlay_o (by omega)).trans ((zlay_o (by omega)).trans (ho' _ (by omega))))))) rfl hnm ?_
  refine z_al0 eX1_init_62 hne ?_
  refine zW.mono (b' := (9 + 1, 364 + 7)) ⟨by decide, by decide⟩ ?_
  refine z_new (ci := 6) eX1_init_63 rfl rfl nX1_44.1 nX1_44.2.1 nX1_44.2.2 ?_
  refine z_dup eX1_init_66 (Nat.ne_of_beq_eq_false rfl) ?_
  refine zW.mono (b' := (6 + 3, 52 + 312)) ⟨by decide, by decide⟩ ?_
  refine z_callI (b' := (6, 52)) (b'' := (3, 312)) (av := []) (st := [zP (o + 1 + 1 + 1 + 1 + 4), zP (o)]) eX1_init_67 vX1_46.1 vX1_46.2.1 vX1_46.2.2 (n_X6 (zlay_s' (by omega)) (by omega)) (Nat.le_of_ble_eq_true rfl) (by omega) rfl (Nat.le_of_ble_eq_true rfl) (fun r l2 c2 m2 q => ?_) (fun E9 l9 c9 m9 q => by obtain ⟨q1, q2⟩ := q; cases q1)
  obtain ⟨q1, h2, hm2⟩ := q
  have e9 := Sum.inl.inj q1
  subst e9
  subst hm2
  refine z_pfP (j := 12) lX1_47 eX1_init_70 rfl rfl ((h2.bl _ (by omega)).trans ((zlay_o (by omega)).trans ((h1.bl _ (by omega)).trans ((zlay_o (by omega)).trans ((zlay_o (by omega)).trans ((zlay_o (by omega)).trans ((zlay_o (by omega)).trans (ho' _ (by omega))))))))) rfl hnm ?_
  refine z_al0 eX1_init_73 hne ?_
  refine zW.mono (b' := (2 + 1, 310 + 2)) ⟨by decide, by decide⟩ ?_
  refine z_new (ci := 5) eX1_init_74 rfl rfl nX1_51.1 nX1_51.2.1 nX1_51.2.2 ?_
  refine z_dup eX1_init_77 (Nat.ne_of_beq_eq_false rfl) ?_
  refine zW.mono (b' := (1 + 1, 300 + 10)) ⟨by decide, by decide⟩ ?_
  refine z_callI (b' := (1, 300)) (b'' := (1, 10)) (av := []) (st := [zP (o + 1 + 1 + 1 + 1 + 4 + 7), zP (o)]) eX1_init_78 vX1_53.1 vX1_53.2.1 vX1_53.2.2 (n_X5 (zlay_s' (by omega)) (by omega)) (Nat.le_of_ble_eq_true rfl) (by omega) rfl (Nat.le_of_ble_eq_true rfl) (fun r l3 c3 m3 q => ?_) (fun E9 l9 c9 m9 q => by obtain ⟨q1, q2⟩ := q; cases q1)
  obtain ⟨q1, h3, hm3⟩ := q
  have e9 := Sum.inl.inj q1
  subst e9
  subst hm3
  refine z_pfP (j := 13) lX1_54 eX1_init_81 rfl rfl ((h3.bl _ (by omega)).trans ((zlay_o (by omega)).trans ((h2.bl _ (by omega)).trans ((zlay_o (by omega)).trans ((h1.bl _ (by omega)).trans ((zlay_o (by omega)).trans ((zlay_o (by omega)).trans ((zlay_o (by omega)).trans ((zlay_o (by omega)).trans (ho' _ (by omega))))))))))) rfl hnm ?_
  refine z_al0 eX1_init_84 hne ?_
  refine z_bipush eX1_init_85 (by decide) ?_
  refine zW.mono (b' := (0 + 1, 0 + (10 : Int).toNat)) ⟨by decide, by decide⟩ ?_
  refine z_newi eX1_init_87 w_ai ⟨by decide, by decide⟩ ?_
  refine z_pfP (j := 14) lX1_60 eX1_init_89 rfl rfl ((zlay_o (by omega)).trans ((h3.bl _ (by omega)).trans ((zlay_o (by omega)).trans ((h2.bl _ (by omega)).trans ((zlay_o (by omega)).trans ((h1.bl _ (by omega)).trans ((zlay_o (by omega)).trans ((zlay_o (by omega)).trans ((zlay_o (by omega)).trans ((zlay_o (by omega)).trans (ho' _ (by omega)))))))))))) rfl hnm ?_
  refine z_return eX1_init_92 rfl ?_
  exact ⟨rfl, ⟨fun p hp => (zlay_o (by omega)).trans ((h3.bl _ (by omega)).trans ((zlay_o (by omega)).trans ((h2.bl _ (by omega)).trans ((zlay_o (by omega)).trans ((h1.bl _ (by omega)).trans ((zlay_o (by omega)).trans ((zlay_o (by omega)).trans ((zlay_o (by omega)).trans ((zlay_o (by omega)).trans (rfl)))))))))),
    fun p hp => (zset_o (by omega)).trans ((zzero_o (by omega)).trans ((zset_o (by omega)).trans ((h3.bc _ (by omega)).trans ((zborn_o (by omega)).trans ((zset_o (by omega)).trans ((h2.bc _ (by omega)).trans ((zborn_o (by omega)).trans ((zset_o (by omega)).trans ((h1.bc _ (by omega)).trans ((zborn_o (by omega)).trans ((zset_o (by omega)).trans ((zset_o (by omega)).trans ((zset_o (by omega)).trans ((zfil_o (by omega)).trans ((zset_o (by omega)).trans ((zzero_o (by omega)).trans ((zset_o (by omega)).trans ((zzero_o (by omega)).trans ((zset_o (by omega)).trans ((zzero_o (by omega)).trans (rfl))))))))))))))))))))),
    fun p hp => (zlay_o (by omega)).trans ((h3.bl _ (by omega)).trans ((zlay_o (by omega)).trans ((h2.bl _ (by omega)).trans ((zlay_o (by omega)).trans ((h1.bl _ (by omega)).trans ((zlay_o (by omega)).trans ((zlay_o (by omega)).trans ((zlay_o (by omega)).trans ((zlay_o (by omega)).trans (ho' _ (by omega))))))))))),
    fun p hp => (zlay_o (by omega)).trans ((h3.bl _ (by omega)).trans ((zlay_o (by omega)).trans ((h2.bl _ (by omega)).trans ((zlay_o (by omega)).trans ((h1.bl _ (by omega)).trans ((zlay_o (by omega)).trans ((zlay_o (by omega)).trans ((zlay_o (by omega)).trans (zlay_s' (by omega)))))))))),
    fun p hp => (zlay_o (by omega)).trans ((h3.bl _ (by omega)).trans ((zlay_o (by omega)).trans ((h2.bl _ (by omega)).trans ((zlay_o (by omega)).trans ((h1.bl _ (by omega)).trans ((zlay_o (by omega)).trans ((zlay_o (by omega)).trans (zlay_s' (by omega))))))))),
    fun p hp => (zlay_o (by omega)).trans ((h3.bl _ (by omega)).trans ((zlay_o (by omega)).trans ((h2.bl _ (by omega)).trans ((zlay_o (by omega)).trans ((h1.bl _ (by omega)).trans ((zlay_o (by omega)).trans (zlay_s' (by omega)))))))),
    fun p hp => (zlay_o (by omega)).trans ((h3.bl _ (by omega)).trans ((zlay_o (by omega)).trans ((h2.bl _ (by omega)).trans ((zlay_o (by omega)).trans (h1.l0 _ (by omega)))))),
    fun p hp => (zlay_o (by omega)).trans ((h3.bl _ (by omega)).trans ((zlay_o (by omega)).trans ((h2.bl _ (by omega)).trans ((zlay_o (by omega)).trans (h1.l1 _ (by omega)))))),
    fun p hp => (zlay_o (by omega)).trans ((h3.bl _ (by omega)).trans ((zlay_o (by omega)).trans ((h2.bl _ (by omega)).trans ((zlay_o (by omega)).trans (h1.l2 _ (by omega)))))),
    fun p hp => (zlay_o (by omega)).trans ((h3.bl _ (by omega)).trans ((zlay_o (by omega)).trans ((h2.bl _ (by omega)).trans ((zlay_o (by omega)).trans (h1.l3 _ (by omega)))))),
    fun p hp => (zlay_o (by omega)).trans ((h3.bl _ (by omega)).trans ((zlay_o (by omega)).trans (h2.l0 _ (by omega)))),
    fun p hp => (zlay_o (by omega)).trans ((h3.bl _ (by omega)).trans ((zlay_o (by omega)).trans (h2.l1 _ (by omega)))),
    fun p hp => (zlay_o (by omega)).trans ((h3.bl _ (by omega)).trans ((zlay_o (by omega)).trans (h2.l2 _ (by omega)))),
    fun p hp => (zlay_o (by omega)).trans ((h3.bl _ (by omega)).trans ((zlay_o (by omega)).trans (h2.l3 _ (by omega)))),
    fun p hp => (zlay_o (by omega)).trans ((h3.bl _ (by omega)).trans ((zlay_o (by omega)).trans (h2.l4 _ (by omega)))),
    fun p hp => (zlay_o (by omega)).trans ((h3.bl _ (by omega)).trans ((zlay_o (by omega)).trans (h2.l5 _ (by omega)))),
    fun p hp => (zlay_o (by omega)).trans ((h3.bl _ (by omega)).trans ((zlay_o (by omega)).trans (h2.l6 _ (by omega)))),
    fun p hp => (zlay_o (by omega)).trans (h3.l0 _ (by omega)),
    fun p hp => (zlay_o (by omega)).trans (h3.l1 _ (by omega)),
    fun p hp => zlay_s' (by omega),
    fun p hp => (zset_n (Or.inr (by decide))).trans ((zzero_n (by omega)).trans ((zset_n (Or.inr (by decide))).trans ((congrFun (h3.bc _ (by omega)) _).trans ((zborn_n (by omega)).trans ((zset_n (Or.inr (by decide))).trans ((congrFun (h2.bc _ (by omega)) _).trans ((zborn_n (by omega)).trans ((zset_n (Or.inr (by decide))).trans ((congrFun (h1.bc _ (by omega)) _).trans ((zborn_n (by omega)).trans ((zset_n (Or.inr (by decide))).trans ((zset_n (Or.inr (by decide))).trans ((zset_n (Or.inr (by decide))).trans ((zfil_n (by omega)).trans ((zset_n (Or.inr (by decide))).trans ((zzero_n (by omega)).trans ((zset_n (Or.inr (by decide))).trans ((zzero_n (by omega)).trans ((zset_s' (by omega)).trans (by omega)))))))))))))))))))),
    fun p hp => (zset_n (Or.inr (by decide))).trans ((zzero_n (by omega)).trans ((zset_n (Or.inr (by decide))).trans ((congrFun (h3.bc _ (by omega)) _).trans ((zborn_n (by omega)).trans ((zset_n (Or.inr (by decide))).trans ((congrFun (h2.bc _ (by omega)) _).trans ((zborn_n (by omega)).trans ((zset_n (Or.inr (by decide))).trans ((congrFun (h1.bc _ (by omega)) _).trans ((zborn_n (by omega)).trans ((zset_n (Or.inr (by decide))).trans ((zset_n (Or.inr (by decide))).trans ((zset_n (Or.inr (by decide))).trans ((zfil_n (by omega)).trans ((zset_n (Or.inr (by decide))).trans ((zzero_n (by omega)).trans ((zset_s' (by omega)).trans (by omega)))))))))))))))))),
    fun p hp => (zset_n (Or.inr (by decide))).trans ((zzero_n (by omega)).trans ((zset_n (Or.inr (by decide))).trans ((congrFun (h3.bc _ (by omega)) _).trans ((zborn_n (by omega)).trans ((zset_n (Or.inr (by decide))).trans ((congrFun (h2.bc _ (by omega)) _).trans ((zborn_n (by omega)).trans ((zset_n (Or.inr (by decide))).trans ((congrFun (h1.bc _ (by omega)) _).trans ((zborn_n (by omega)).trans ((zset_n (Or.inr (by decide))).trans ((zset_n (Or.inr (by decide))).trans ((zset_n (Or.inr (by decide))).trans ((zfil_n (by omega)).trans ((zset_s' (by omega)).trans (by omega)))))))))))))))),
    fun p hp => (zset_n (Or.inl (by omega))).trans ((zzero_n (by omega)).trans ((zset_n (Or.inl (by omega))).trans ((congrFun (h3.bc _ (by omega)) _).trans ((zborn_n (by omega)).trans ((zset_n (Or.inl (by omega))).trans ((congrFun (h2.bc _ (by omega)) _).trans ((zborn_n (by omega)).trans ((zset_n (Or.inl (by omega))).trans ((h1.r0_4 _ (by omega)).trans (by omega)))))))))),
    fun p hp => (zset_n (Or.inl (by omega))).trans ((zzero_n (by omega)).trans ((zset_n (Or.inl (by omega))).trans ((congrFun (h3.bc _ (by omega)) _).trans ((zborn_n (by omega)).trans ((zset_n (Or.inl (by omega))).trans ((congrFun (h2.bc _ (by omega)) _).trans ((zborn_n (by omega)).trans ((zset_n (Or.inl (by omega))).trans ((h1.r0_5 _ (by omega)).trans (by omega)))))))))),
    fun p hp => (zset_n (Or.inl (by omega))).trans ((zzero_n (by omega)).trans ((zset_n (Or.inl (by omega))).trans ((congrFun (h3.bc _ (by omega)) _).trans ((zborn_n (by omega)).trans ((zset_n (Or.inl (by omega))).trans ((congrFun (h2.bc _ (by omega)) _).trans ((zborn_n (by omega)).trans ((zset_n (Or.inl (by omega))).trans ((h1.r0_6 _ (by omega)).trans (by omega)))))))))),
    fun p hp => (zset_n (Or.inr (by decide))).trans ((zzero_n (by omega)).trans ((zset_n (Or.inr (by decide))).trans ((congrFun (h3.bc _ (by omega)) _).trans ((zborn_n (by omega)).trans ((zset_n (Or.inr (by decide))).trans ((congrFun (h2.bc _ (by omega)) _).trans ((zborn_n (by omega)).trans ((zset_s' (by omega)).trans (by omega))))))))),
    fun p hp => (zset_n (Or.inl (by omega))).trans ((zzero_n (by omega)).trans ((zset_n (Or.inl (by omega))).trans ((congrFun (h3.bc _ (by omega)) _).trans ((zborn_n (by omega)).trans ((zset_n (Or.inl (by omega))).trans ((h2.r0_1 _ (by omega)).trans (by omega))))))),
    fun p hp => (zset_n (Or.inl (by omega))).trans ((zzero_n (by omega)).trans ((zset_n (Or.inl (by omega))).trans ((congrFun (h3.bc _ (by omega)) _).trans ((zborn_n (by omega)).trans ((zset_n (Or.inl (by omega))).trans ((h2.r0_2 _ (by omega)).trans (by omega))))))),
    fun p hp => (zset_n (Or.inl (by omega))).trans ((zzero_n (by omega)).trans ((zset_n (Or.inl (by omega))).trans ((congrFun (h3.bc _ (by omega)) _).trans ((zborn_n (by omega)).trans ((zset_n (Or.inl (by omega))).trans ((h2.r0_3 _ (by omega)).trans (by omega))))))),
    fun p hp => (zset_n (Or.inl (by omega))).trans ((zzero_n (by omega)).trans ((zset_n (Or.inl (by omega))).trans ((congrFun (h3.bc _ (by omega)) _).trans ((zborn_n (by omega)).trans ((zset_n (Or.inl (by omega))).trans ((h2.r0_4 _ (by omega)).trans (by omega))))))),
    fun p hp => (zset_n (Or.inl (by omega))).trans ((zzero_n (by omega)).trans ((zset_n (Or.inl (by omega))).trans ((congrFun (h3.bc _ (by omega)) _).trans ((zborn_n (by omega)).trans ((zset_n (Or.inl (by omega))).trans ((h2.r0_5 _ (by omega)).trans (by omega))))))),
    fun p hp => (zset_n (Or.inl (by omega))).trans ((zzero_n (by omega)).trans ((zset_n (Or.inl (by omega))).trans ((congrFun (h3.bc _ (by omega)) _).trans ((zborn_n (by omega)).trans ((zset_n (Or.inl (by omega))).trans ((h2.r0_6 _ (by omega)).trans (by omega))))))),
    fun p hp => (zset_n (Or.inr (by decide))).trans ((zzero_n (by omega)).trans ((zset_n (Or.inr (by decide))).trans ((congrFun (h3.bc _ (by omega)) _).trans ((zborn_n (by omega)).trans ((zset_s' (by omega)).trans (by omega)))))),
    fun p hp => (zset_n (Or.inl (by omega))).trans ((zzero_n (by omega)).trans ((zset_n (Or.inl (by omega))).trans ((h3.r0_1 _ (by omega)).trans (by omega)))),
    fun p hp => (zset_n (Or.inr (by decide))).trans ((zzero_n (by omega)).trans ((zset_s' (by omega)).trans (by omega))),
    fun p hp => (zset_s' (by omega)).trans (by omega),
    fun p hp => (zset_n (Or.inr (by decide))).trans ((zzero_n (by omega)).trans ((zset_n (Or.inr (by decide))).trans ((congrFun (h3.bc _ (by omega)) _).trans ((zborn_n (by omega)).trans ((zset_n (Or.inr (by decide))).trans ((congrFun (h2.bc _ (by omega)) _).trans ((zborn_n (by omega)).trans ((zset_n (Or.inr (by decide))).trans ((congrFun (h1.bc _ (by omega)) _).trans ((zborn_n (by omega)).trans ((zset_n (Or.inr (by decide))).trans ((zset_n (Or.inr (by decide))).trans ((zset_s' (by omega)).trans (by omega)))))))))))))),
    fun p hp => (zset_n (Or.inr (by decide))).trans ((zzero_n (by omega)).trans ((zset_n (Or.inr (by decide))).trans ((congrFun (h3.bc _ (by omega)) _).trans ((zborn_n (by omega)).trans ((zset_n (Or.inr (by decide))).trans ((congrFun (h2.bc _ (by omega)) _).trans ((zborn_n (by omega)).trans ((zset_n (Or.inr (by decide))).trans ((congrFun (h1.bc _ (by omega)) _).trans ((zborn_n (by omega)).trans ((zset_n (Or.inr (by decide))).trans ((zset_s' (by omega)).trans (by omega))))))))))))),
    fun p hp => (zset_n (Or.inr (by decide))).trans ((zzero_n (by omega)).trans ((zset_n (Or.inr (by decide))).trans ((congrFun (h3.bc _ (by omega)) _).trans ((zborn_n (by omega)).trans ((zset_n (Or.inr (by decide))).trans ((congrFun (h2.bc _ (by omega)) _).trans ((zborn_n (by omega)).trans ((zset_n (Or.inr (by decide))).trans ((congrFun (h1.bc _ (by omega)) _).trans ((zborn_n (by omega)).trans ((zset_s' (by omega)).trans (by omega)))))))))))),
    fun p hp => (zset_n (Or.inl (by omega))).trans ((zzero_n (by omega)).trans ((zset_n (Or.inl (by omega))).trans ((congrFun (h3.bc _ (by omega)) _).trans ((zborn_n (by omega)).trans ((zset_n (Or.inl (by omega))).trans ((congrFun (h2.bc _ (by omega)) _).trans ((zborn_n (by omega)).trans ((zset_n (Or.inl (by omega))).trans (h1.v0_0 _ (by omega)))))))))),
    fun p hp => (zset_n (Or.inl (by omega))).trans ((zzero_n (by omega)).trans ((zset_n (Or.inl (by omega))).trans ((congrFun (h3.bc _ (by omega)) _).trans ((zborn_n (by omega)).trans ((zset_n (Or.inl (by omega))).trans ((congrFun (h2.bc _ (by omega)) _).trans ((zborn_n (by omega)).trans ((zset_n (Or.inl (by omega))).trans ((h1.d1 _ (by omega)).trans ((zborn_s' (by omega)).trans (by decide))))))))))),
    fun p hp => (zset_n (Or.inl (by omega))).trans ((zzero_n (by omega)).trans ((zset_n (Or.inl (by omega))).trans ((congrFun (h3.bc _ (by omega)) _).trans ((zborn_n (by omega)).trans ((zset_n (Or.inl (by omega))).trans ((congrFun (h2.bc _ (by omega)) _).trans ((zborn_n (by omega)).trans ((zset_n (Or.inl (by omega))).trans ((h1.d2 _ (by omega)).trans ((zborn_s' (by omega)).trans (by decide))))))))))),
    fun p hp => (zset_n (Or.inl (by omega))).trans ((zzero_n (by omega)).trans ((zset_n (Or.inl (by omega))).trans ((congrFun (h3.bc _ (by omega)) _).trans ((zborn_n (by omega)).trans ((zset_n (Or.inl (by omega))).trans ((congrFun (h2.bc _ (by omega)) _).trans ((zborn_n (by omega)).trans ((zset_n (Or.inl (by omega))).trans (h1.v0_3 _ (by omega)))))))))),
    fun p hp => (zset_n (Or.inl (by omega))).trans ((zzero_n (by omega)).trans ((zset_n (Or.inl (by omega))).trans ((congrFun (h3.bc _ (by omega)) _).trans ((zborn_n (by omega)).trans ((zset_n (Or.inl (by omega))).trans ((h2.d0 _ (by omega)).trans ((zborn_s' (by omega)).trans (by decide)))))))),
    fun p hp => (zset_n (Or.inl (by omega))).trans ((zzero_n (by omega)).trans ((zset_n (Or.inl (by omega))).trans ((h3.d0 _ (by omega)).trans ((zborn_s' (by omega)).trans (by decide))))),
    fun p j hp hj0 hj1 => (zset_n (Or.inl (by omega))).trans ((zzero_n (by omega)).trans ((zset_n (Or.inl (by omega))).trans ((congrFun (h3.bc _ (by omega)) _).trans ((zborn_n (by omega)).trans ((zset_n (Or.inl (by omega))).trans ((congrFun (h2.bc _ (by omega)) _).trans ((zborn_n (by omega)).trans ((zset_n (Or.inl (by omega))).trans ((congrFun (h1.bc _ (by omega)) _).trans ((zborn_n (by omega)).trans ((zset_n (Or.inl (by omega))).trans ((zset_n (Or.inl (by omega))).trans ((zset_n (Or.inl (by omega))).trans (zfil_s' (by omega) (by omega))))))))))))))),
    fun p j hp hj0 hj1 => (zset_n (Or.inl (by omega))).trans ((zzero_n (by omega)).trans ((zset_n (Or.inl (by omega))).trans ((congrFun (h3.bc _ (by omega)) _).trans ((zborn_n (by omega)).trans ((zset_n (Or.inl (by omega))).trans ((congrFun (h2.bc _ (by omega)) _).trans ((zborn_n (by omega)).trans ((zset_n (Or.inl (by omega))).trans (h1.a1 _ j (by omega) hj0 hj1))))))))),
    fun p j hp hj0 hj1 => (zset_n (Or.inl (by omega))).trans ((zzero_n (by omega)).trans ((zset_n (Or.inl (by omega))).trans ((congrFun (h3.bc _ (by omega)) _).trans ((zborn_n (by omega)).trans ((zset_n (Or.inl (by omega))).trans (h2.a6 _ j (by omega) hj0 hj1)))))),
    fun p hp => (zset_n (Or.inr (by decide))).trans ((zzero_n (by omega)).trans ((zset_n (Or.inr (by decide))).trans ((congrFun (h3.bc _ (by omega)) _).trans ((zborn_n (by omega)).trans ((zset_n (Or.inr (by decide))).trans ((congrFun (h2.bc _ (by omega)) _).trans ((zborn_n (by omega)).trans ((zset_n (Or.inr (by decide))).trans ((congrFun (h1.bc _ (by omega)) _).trans ((zborn_n (by omega)).trans ((zset_n (Or.inr (by decide))).trans ((zset_n (Or.inr (by decide))).trans ((zset_n (Or.inr (by decide))).trans ((zfil_n (by omega)).trans ((zset_n (Or.inr (by decide))).trans ((zzero_n (by omega)).trans ((zset_n (Or.inr (by decide))).trans ((zzero_n (by omega)).trans ((zset_n (Or.inr (by decide))).trans ((zzero_n (by omega)).trans (rfl))))))))))))))))))))),
    fun p hp => (zset_n (Or.inr (by decide))).trans ((zzero_n (by omega)).trans ((zset_n (Or.inr (by decide))).trans ((congrFun (h3.bc _ (by omega)) _).trans ((zborn_n (by omega)).trans ((zset_n (Or.inr (by decide))).trans ((congrFun (h2.bc _ (by omega)) _).trans ((zborn_n (by omega)).trans ((zset_n (Or.inr (by decide))).trans ((congrFun (h1.bc _ (by omega)) _).trans ((zborn_n (by omega)).trans ((zset_n (Or.inr (by decide))).trans ((zset_n (Or.inr (by decide))).trans ((zset_n (Or.inr (by decide))).trans ((zfil_n (by omega)).trans ((zset_n (Or.inr (by decide))).trans ((zzero_n (by omega)).trans ((zset_n (Or.inr (by decide))).trans ((zzero_n (by omega)).trans ((zset_n (Or.inr (by decide))).trans ((zzero_n (by omega)).trans (rfl))))))))))))))))))))),
    fun p hp => (zset_n (Or.inr (by decide))).trans ((zzero_n (by omega)).trans ((zset_n (Or.inr (by decide))).trans ((congrFun (h3.bc _ (by omega)) _).trans ((zborn_n (by omega)).trans ((zset_n (Or.inr (by decide))).trans ((congrFun (h2.bc _ (by omega)) _).trans ((zborn_n (by omega)).trans ((zset_n (Or.inr (by decide))).trans ((congrFun (h1.bc _ (by omega)) _).trans ((zborn_n (by omega)).trans ((zset_n (Or.inr (by decide))).trans ((zset_n (Or.inr (by decide))).trans ((zset_n (Or.inr (by decide))).trans ((zfil_n (by omega)).trans ((zset_n (Or.inr (by decide))).trans ((zzero_n (by omega)).trans ((zset_n (Or.inr (by decide))).trans ((zzero_n (by omega)).trans ((zset_n (Or.inr (by decide))).trans ((zzero_n (by omega)).trans (rfl))))))))))))))))))))),
    fun p hp => (zset_n (Or.inr (by decide))).trans ((zzero_n (by omega)).trans ((zset_n (Or.inr (by decide))).trans ((congrFun (h3.bc _ (by omega)) _).trans ((zborn_n (by omega)).trans ((zset_n (Or.inr (by decide))).trans ((congrFun (h2.bc _ (by omega)) _).trans ((zborn_n (by omega)).trans ((zset_n (Or.inr (by decide))).trans ((congrFun (h1.bc _ (by omega)) _).trans ((zborn_n (by omega)).trans ((zset_n (Or.inr (by decide))).trans ((zset_n (Or.inr (by decide))).trans ((zset_n (Or.inr (by decide))).trans ((zfil_n (by omega)).trans ((zset_n (Or.inr (by decide))).trans ((zzero_n (by omega)).trans ((zset_n (Or.inr (by decide))).trans ((zzero_n (by omega)).trans ((zset_n (Or.inr (by decide))).trans ((zzero_n (by omega)).trans (rfl))))))))))))))))))))),
    fun p hp => (zset_n (Or.inr (by decide))).trans ((zzero_n (by omega)).trans ((zset_n (Or.inr (by decide))).trans ((congrFun (h3.bc _ (by omega)) _).trans ((zborn_n (by omega)).trans ((zset_n (Or.inr (by decide))).trans ((congrFun (h2.bc _ (by omega)) _).trans ((zborn_n (by omega)).trans ((zset_n (Or.inr (by decide))).trans ((congrFun (h1.bc _ (by omega)) _).trans ((zborn_n (by omega)).trans ((zset_n (Or.inr (by decide))).trans ((zset_n (Or.inr (by decide))).trans ((zset_n (Or.inr (by decide))).trans ((zfil_n (by omega)).trans ((zset_n (Or.inr (by decide))).trans ((zzero_n (by omega)).trans ((zset_n (Or.inr (by decide))).trans ((zzero_n (by omega)).trans ((zset_n (Or.inr (by decide))).trans ((zzero_n (by omega)).trans (rfl))))))))))))))))))))),
    trivial⟩, by omega⟩
def NwX10 (lay l : zLay) (C c : zMem) (o : Int) : Prop := (∀ p, p < o → l p = lay p) ∧ (∀ p, p < o → c p = C p) ∧ (∀ p, p = o + 0 → l p = (11, 6)) ∧ (∀ p, p = o + 1 → l p = (100, 0)) ∧ (∀ p, p = o + 0 → c p 1 = o + 1) ∧ (True)
theorem NwX10.bl {lay l : zLay} {C c : zMem} {o : Int} (h : NwX10 lay l C c o) : ∀ p, p < o → l p = lay p := h.1
theorem NwX10.bc {lay l : zLay} {C c : zMem} {o : Int} (h : NwX10 lay l C c o) : ∀ p, p < o → c p = C p := h.2.1
theorem NwX10.l0 {lay l : zLay} {C c : zMem} {o : Int} (h : NwX10 lay l C c o) : ∀ p, p = o + 0 → l p = (11, 6) := h.2.2.1
theorem NwX10.l1 {lay l : zLay} {C c : zMem} {o : Int} (h : NwX10 lay l C c o) : ∀ p, p = o + 1 → l p = (100, 0) := h.2.2.2.1
theorem NwX10.r0_1 {lay l : zLay} {C c : zMem} {o : Int} (h : NwX10 lay l C c o) : ∀ p, p = o + 0 → c p 1 = o + 1 := h.2.2.2.2.1
theorem NwX10.z {lay l : zLay} {C c : zMem} {o : Int} (h : NwX10 lay l C c o) : True := h.2.2.2.2.2
theorem n_X10 {G : zG} {lay : zLay} {C : zMem} {o : Int} (ho : lay o = (11, 6)) (h0 : 0 ≤ o) : zMM G 2 KX10_init [zP o] lay C (o + 1) (1, 0) (fun r l c m => r = .inl none ∧ NwX10 lay l C c o ∧ m = o + 2) := by
  refine z_met' (L := [zP o]) gX10_init.1 rfl rfl (Nat.le_of_ble_eq_true rfl) rfl ?_
  have hne : o ≠ -1 := by omega
  have ho' : ∀ p, p = o + 0 → lay p = (11, 6) := fun p hp => by rw [hp, Int.add_zero]; exact ho
  have hnm : KX10_init.1.name = "<init>" ∧ (vwCl[10]?).map (·.1) = some RX10 := ⟨rfl, rfl⟩
  refine z_al0 eX10_init_0 hne ?_
  refine z_objInit eX10_init_1 oX10_3 hne (Nat.le_of_ble_eq_true rfl) (Nat.le_of_ble_eq_true rfl) ?_
  refine z_al0 eX10_init_4 hne ?_
  refine z_iconst eX10_init_5 ?_
  refine z_pfI (j := 0) lX10_9 eX10_init_6 rfl (ho' _ (by omega)) rfl hnm ?_
  refine z_al0 eX10_init_9 hne ?_
  refine z_iconst eX10_init_10 ?_
  refine zW.mono (b' := (0 + 1, 0 + (0 : Int).toNat)) ⟨by decide, by decide⟩ ?_
  refine z_newi eX10_init_11 w_ai ⟨by decide, by decide⟩ ?_
  refine z_pfP (j := 1) lX10_15 eX10_init_13 rfl rfl ((zlay_o (by omega)).trans (ho' _ (by omega))) rfl hnm ?_
  refine z_return eX10_init_16 rfl ?_
  exact ⟨rfl, ⟨fun p hp => (zlay_o (by omega)).trans (rfl),
    fun p hp => (zset_o (by omega)).trans ((zzero_o (by omega)).trans ((zset_o (by omega)).trans (rfl))),
    fun p hp => (zlay_o (by omega)).trans (ho' _ (by omega)),
    fun p hp => zlay_s' (by omega),
    fun p hp => (zset_s' (by omega)).trans (by omega),
    trivial⟩, by omega⟩
def NwX0 (lay l : zLay) (C c : zMem) (o : Int) : Prop := (∀ p, p < o → l p = lay p) ∧ (∀ p, p < o → c p = C p) ∧ (∀ p, p = o + 0 → l p = (1, 2)) ∧ (∀ p, p = o + 1 → l p = (11, 6)) ∧ (∀ p, p = o + 2 → l p = (100, 0)) ∧ (∀ p, p = o + 3 → l p = (2, 15)) ∧ (∀ p, p = o + 4 → l p = (100, 7)) ∧ (∀ p, p = o + 5 → l p = (100, 7)) ∧ (∀ p, p = o + 6 → l p = (100, 8)) ∧ (∀ p, p = o + 7 → l p = (10, 7)) ∧ (∀ p, p = o + 8 → l p = (100, 25)) ∧ (∀ p, p = o + 9 → l p = (100, 5)) ∧ (∀ p, p = o + 10 → l p = (100, 5)) ∧ (∀ p, p = o + 11 → l p = (7, 7)) ∧ (∀ p, p = o + 12 → l p = (100, 8)) ∧ (∀ p, p = o + 13 → l p = (100, 8)) ∧ (∀ p, p = o + 14 → l p = (100, 8)) ∧ (∀ p, p = o + 15 → l p = (100, 8)) ∧ (∀ p, p = o + 16 → l p = (100, 8)) ∧ (∀ p, p = o + 17 → l p = (100, 12)) ∧ (∀ p, p = o + 18 → l p = (6, 2)) ∧ (∀ p, p = o + 19 → l p = (100, 300)) ∧ (∀ p, p = o + 20 → l p = (100, 10)) ∧ (∀ p, p = o + 1 → c p 1 = o + 2) ∧ (∀ p, p = o + 0 → c p 0 = o + 1) ∧ (∀ p, p = o + 3 → c p 2 = o + 4) ∧ (∀ p, p = o + 3 → c p 3 = o + 5) ∧ (∀ p, p = o + 3 → c p 6 = o + 6) ∧ (∀ p, p = o + 7 → c p 4 = o + 8) ∧ (∀ p, p = o + 7 → c p 5 = o + 9) ∧ (∀ p, p = o + 7 → c p 6 = o + 10) ∧ (∀ p, p = o + 3 → c p 11 = o + 7) ∧ (∀ p, p = o + 11 → c p 1 = o + 12) ∧ (∀ p, p = o + 11 → c p 2 = o + 13) ∧ (∀ p, p = o + 11 → c p 3 = o + 14) ∧ (∀ p, p = o + 11 → c p 4 = o + 15) ∧ (∀ p, p = o + 11 → c p 5 = o + 16) ∧ (∀ p, p = o + 11 → c p 6 = o + 17) ∧ (∀ p, p = o + 3 → c p 12 = o + 11) ∧ (∀ p, p = o + 18 → c p 1 = o + 19) ∧ (∀ p, p = o + 3 → c p 13 = o + 18) ∧ (∀ p, p = o + 3 → c p 14 = o + 20) ∧ (∀ p, p = o + 0 → c p 1 = o + 3) ∧ (True)
theorem NwX0.bl {lay l : zLay} {C c : zMem} {o : Int} (h : NwX0 lay l C c o) : ∀ p, p < o → l p = lay p := h.1
theorem NwX0.bc {lay l : zLay} {C c : zMem} {o : Int} (h : NwX0 lay l C c o) : ∀ p, p < o → c p = C p := h.2.1
theorem NwX0.l0 {lay l : zLay} {C c : zMem} {o : Int} (h : NwX0 lay l C c o) : ∀ p, p = o + 0 → l p = (1, 2) := h.2.2.1
theorem NwX0.l1 {lay l : zLay} {C c : zMem} {o : Int} (h : NwX0 lay l C c o) : ∀ p, p = o + 1 → l p = (11, 6) := h.2.2.2.1
theorem NwX0.l2 {lay l : zLay} {C c : zMem} {o : Int} (h : NwX0 lay l C c o) : ∀ p, p = o + 2 → l p = (100, 0) := h.2.2.2.2.1
theorem NwX0.l3 {lay l : zLay} {C c : zMem} {o : Int} (h : NwX0 lay l C c o) : ∀ p, p = o + 3 → l p = (2, 15) := h.2.2.2.2.2.1
theorem NwX0.l4 {lay l : zLay} {C c : zMem} {o : Int} (h : NwX0 lay l C c o) : ∀ p, p = o + 4 → l p = (100, 7) := h.2.2.2.2.2.2.1
theorem NwX0.l5 {lay l : zLay} {C c : zMem} {o : Int} (h : NwX0 lay l C c o) : ∀ p, p = o + 5 → l p = (100, 7) := h.2.2.2.2.2.2.2.1
theorem NwX0.l6 {lay l : zLay} {C c : zMem} {o : Int} (h : NwX0 lay l C c o) : ∀ p, p = o + 6 → l p = (100, 8) := h.2.2.2.2.2.2.2.2.1
theorem NwX0.l7 {lay l : zLay} {C c : zMem} {o : Int} (h : NwX0 lay l C c o) : ∀ p, p = o + 7 → l p = (10, 7) := h.2.2.2.2.2.2.2.2.2.1
theorem NwX0.l8 {lay l : zLay} {C c : zMem} {o : Int} (h : NwX0 lay l C c o) : ∀ p, p = o + 8 → l p = (100, 25) := h.2.2.2.2.2.2.2.2.2.2.1
theorem NwX0.l9 {lay l : zLay} {C c : zMem} {o : Int} (h : NwX0 lay l C c o) : ∀ p, p = o + 9 → l p = (100, 5) := h.2.2.2.2.2.2.2.2.2.2.2.1
theorem NwX0.l10 {lay l : zLay} {C c : zMem} {o : Int} (h : NwX0 lay l C c o) : ∀ p, p = o + 10 → l p = (100, 5) := h.2.2.2.2.2.2.2.2.2.2.2.2.1
theorem NwX0.l11 {lay l : zLay} {C c : zMem} {o : Int} (h : NwX0 lay l C c o) : ∀ p, p = o + 11 → l p = (7, 7) := h.2.2.2.2.2.2.2.2.2.2.2.2.2.1
theorem NwX0.l12 {lay l : zLay} {C c : zMem} {o : Int} (h : NwX0 lay l C c o) : ∀ p, p = o + 12 → l p = (100, 8) := h.2.2.2.2.2.2.2.2.2.2.2.2.2.2.1
theorem NwX0.l13 {lay l : zLay} {C c : zMem} {o : Int} (h : NwX0 lay l C c o) : ∀ p, p = o + 13 → l p = (100, 8) := h.2.2.2.2.2.2.2.2.2.2.2.2.2.2.2.1
theorem NwX0.l14 {lay l : zLay} {C c : zMem} {o : Int} (h : NwX0 lay l C c o) : ∀ p, p = o + 14 → l p = (100, 8) := h.2.2.2.2.2.2.2.2.2.2.2.2.2.2.2.2.1
theorem NwX0.l15 {lay l : zLay} {C c : zMem} {o : Int} (h : NwX0 lay l C c o) : ∀ p, p = o + 15 → l p = (100, 8) := h.2.2.2.2.2.2.2.2.2.2.2.2.2.2.2.2.2.1
theorem NwX0.l16 {lay l : zLay} {C c : zMem} {o : Int} (h : NwX0 lay l C c o) : ∀ p, p = o + 16 → l p = (100, 8) := h.2.2.2.2.2.2.2.2.2.2.2.2.2.2.2.2.2.2.1
theorem NwX0.l17 {lay l : zLay} {C c : zMem} {o : Int} (h : NwX0 lay l C c o) : ∀ p, p = o + 17 → l p = (100, 12) := h.2.2.2.2.2.2.2.2.2.2.2.2.2.2.2.2.2.2.2.1
theorem NwX0.l18 {lay l : zLay} {C c : zMem} {o : Int} (h : NwX0 lay l C c o) : ∀ p, p = o + 18 → l p = (6, 2) := h.2.2.2.2.2.2.2.2.2.2.2.2.2.2.2.2.2.2.2.2.1
theorem NwX0.l19 {lay l : zLay} {C c : zMem} {o : Int} (h : NwX0 lay l C c o) : ∀ p, p = o + 19 → l p = (100, 300) := h.2.2.2.2.2.2.2.2.2.2.2.2.2.2.2.2.2.2.2.2.2.1
theorem NwX0.l20 {lay l : zLay} {C c : zMem} {o : Int} (h : NwX0 lay l C c o) : ∀ p, p = o + 20 → l p = (100, 10) := h.2.2.2.2.2.2.2.2.2.2.2.2.2.2.2.2.2.2.2.2.2.2.1
theorem NwX0.r1_1 {lay l : zLay} {C c : zMem} {o : Int} (h : NwX0 lay l C c o) : ∀ p, p = o + 1 → c p 1 = o + 2 := h.2.2.2.2.2.2.2.2.2.2.2.2.2.2.2.2.2.2.2.2.2.2.2.1
theorem NwX0.r0_0 {lay l : zLay} {C c : zMem} {o : Int} (h : NwX0 lay l C c o) : ∀ p, p = o + 0 → c p 0 = o + 1 := h.2.2.2.2.2.2.2.2.2.2.2.2.2.2.2.2.2.2.2.2.2.2.2.2.1
theorem NwX0.r3_2 {lay l : zLay} {C c : zMem} {o : Int} (h : NwX0 lay l C c o) : ∀ p, p = o + 3 → c p 2 = o + 4 := h.2.2.2.2.2.2.2.2.2.2.2.2.2.2.2.2.2.2.2.2.2.2.2.2.2.1
theorem NwX0.r3_3 {lay l : zLay} {C c : zMem} {o : Int} (h : NwX0 lay l C c o) : ∀ p, p = o + 3 → c p 3 = o + 5 := h.2.2.2.2.2.2.2.2.2.2.2.2.2.2.2.2.2.2.2.2.2.2.2.2.2.2.1
theorem NwX0.r3_6 {lay l : zLay} {C c : zMem} {o : Int} (h : NwX0 lay l C c o) : ∀ p, p = o + 3 → c p 6 = o + 6 := h.2.2.2.2.2.2.2.2.2.2.2.2.2.2.2.2.2.2.2.2.2.2.2.2.2.2.2.1
theorem NwX0.r7_4 {lay l : zLay} {C c : zMem} {o : Int} (h : NwX0 lay l C c o) : ∀ p, p = o + 7 → c p 4 = o + 8 := h.2.2.2.2.2.2.2.2.2.2.2.2.2.2.2.2.2.2.2.2.2.2.2.2.2.2.2.2.1
theorem NwX0.r7_5 {lay l : zLay} {C c : zMem} {o : Int} (h : NwX0 lay l C c o) : ∀ p, p = o + 7 → c p 5 = o + 9 := h.2.2.2.2.2.2.2.2.2.2.2.2.2.2.2.2.2.2.2.2.2.2.2.2.2.2.2.2.2.1
theorem NwX0.r7_6 {lay l : zLay} {C c : zMem} {o : Int} (h : NwX0 lay l C c o) : ∀ p, p = o + 7 → c p 6 = o + 10 := h.2.2.2.2.2.2.2.2.2.2.2.2.2.2.2.2.2.2.2.2.2.2.2.2.2.2.2.2.2.2.1
theorem NwX0.r3_11 {lay l : zLay} {C c : zMem} {o : Int} (h : NwX0 lay l C c o) : ∀ p, p = o + 3 → c p 11 = o + 7 := h.2.2.2.2.2.2.2.2.2.2.2.2.2.2.2.2.2.2.2.2.2.2.2.2.2.2.2.2.2.2.2.1
theorem NwX0.r11_1 {lay l : zLay} {C c : zMem} {o : Int} (h : NwX0 lay l C c o) : ∀ p, p = o + 11 → c p 1 = o + 12 := h.2.2.2.2.2.2.2.2.2.2.2.2.2.2.2.2.2.2.2.2.2.2.2.2.2.2.2.2.2.2.2.2.1
theorem NwX0.r11_2 {lay l : zLay} {C c : zMem} {o : Int} (h : NwX0 lay l C c o) : ∀ p, p = o + 11 → c p 2 = o + 13 := h.2.2.2.2.2.2.2.2.2.2.2.2.2.2.2.2.2.2.2.2.2.2.2.2.2.2.2.2.2.2.2.2.2.1
theorem NwX0.r11_3 {lay l : zLay} {C c : zMem} {o : Int} (h : NwX0 lay l C c o) : ∀ p, p = o + 11 → c p 3 = o + 14 := h.2.2.2.2.2.2.2.2.2.2.2.2.2.2.2.2.2.2.2.2.2.2.2.2.2.2.2.2.2.2.2.2.2.2.1
theorem NwX0.r11_4 {lay l : zLay} {C c : zMem} {o : Int} (h : NwX0 lay l C c o) : ∀ p, p = o + 11 → c p 4 = o + 15 := h.2.2.2.2.2.2.2.2.2.2.2.2.2.2.2.2.2.2.2.2.2.2.2.2.2.2.2.2.2.2.2.2.2.2.2.1
theorem NwX0.r11_5 {lay l : zLay} {C c : zMem} {o : Int} (h : NwX0 lay l C c o) : ∀ p, p = o + 11 → c p 5 = o + 16 := h.2.2.2.2.2.2.2.2.2.2.2.2.2.2.2.2.2.2.2.2.2.2.2.2.2.2.2.2.2.2.2.2.2.2.2.2.1
theorem NwX0.r11_6 {lay l : zLay} {C c : zMem} {o : Int} (h : NwX0 lay l C c o) : ∀ p, p = o + 11 → c p 6 = o + 17 := h.2.2.2.2.2.2.2.2.2.2.2.2.2.2.2.2.2.2.2.2.2.2.2.2.2.2.2.2.2.2.2.2.2.2.2.2.2.1
theorem NwX0.r3_12 {lay l : zLay} {C c : zMem} {o : Int} (h : NwX0 lay l C c o) : ∀ p, p = o + 3 → c p 12 = o + 11 := h.2.2.2.2.2.2.2.2.2.2.2.2.2.2.2.2.2.2.2.2.2.2.2.2.2.2.2.2.2.2.2.2.2.2.2.2.2.2.1
theorem NwX0.r18_1 {lay l : zLay} {C c : zMem} {o : Int} (h : NwX0 lay l C c o) : ∀ p, p = o + 18 → c p 1 = o + 19 := h.2.2.2.2.2.2.2.2.2.2.2.2.2.2.2.2.2.2.2.2.2.2.2.2.2.2.2.2.2.2.2.2.2.2.2.2.2.2.2.1
theorem NwX0.r3_13 {lay l : zLay} {C c : zMem} {o : Int} (h : NwX0 lay l C c o) : ∀ p, p = o + 3 → c p 13 = o + 18 := h.2.2.2.2.2.2.2.2.2.2.2.2.2.2.2.2.2.2.2.2.2.2.2.2.2.2.2.2.2.2.2.2.2.2.2.2.2.2.2.2.1
theorem NwX0.r3_14 {lay l : zLay} {C c : zMem} {o : Int} (h : NwX0 lay l C c o) : ∀ p, p = o + 3 → c p 14 = o + 20 := h.2.2.2.2.2.2.2.2.2.2.2.2.2.2.2.2.2.2.2.2.2.2.2.2.2.2.2.2.2.2.2.2.2.2.2.2.2.2.2.2.2.1
theorem NwX0.r0_1 {lay l : zLay} {C c : zMem} {o : Int} (h : NwX0 lay l C c o) : ∀ p, p = o + 0 → c p 1 = o + 3 := h.2.2.2.2.2.2.2.2.2.2.2.2.2.2.2.2.2.2.2.2.2.2.2.2.2.2.2.2.2.2.2.2.2.2.2.2.2.2.2.2.2.2.1
theorem NwX0.z {lay l : zLay} {C c : zMem} {o : Int} (h : NwX0 lay l C c o) : True := h.2.2.2.2.2.2.2.2.2.2.2.2.2.2.2.2.2.2.2.2.2.2.2.2.2.2.2.2.2.2.2.2.2.2.2.2.2.2.2.2.2.2.2
theorem n_X0 {G : zG} {lay : zLay} {C : zMem} {o : Int} (ho : lay o = (1, 2)) (h0 : 0 ≤ o) : zMM G 4 KX0_init [zP o] lay C (o + 1) (20, 456) (fun r l c m => r = .inl none ∧ NwX0 lay l C c o ∧ m = o + 21) := by
  refine z_met' (L := [zP o]) gX0_init.1 rfl rfl (Nat.le_of_ble_eq_true rfl) rfl ?_
  have hne : o ≠ -1 := by omega
  have ho' : ∀ p, p = o + 0 → lay p = (1, 2) := fun p hp => by rw [hp, Int.add_zero]; exact ho
  have hnm : KX0_init.1.name = "<init>" ∧ (vwCl[0]?).map (·.1) = some RX0 := ⟨rfl, rfl⟩
  refine z_al0 eX0_init_0 hne ?_
  refine z_objInit eX0_init_1 oX0_3 hne (Nat.le_of_ble_eq_true rfl) (Nat.le_of_ble_eq_true rfl) ?_
  refine z_al0 eX0_init_4 hne ?_
  refine zW.mono (b' := (19 + 1, 450 + 6)) ⟨by decide, by decide⟩ ?_
  refine z_new (ci := 10) eX0_init_5 rfl rfl nX0_9.1 nX0_9.2.1 nX0_9.2.2 ?_
  refine z_dup eX0_init_8 (Nat.ne_of_beq_eq_false rfl) ?_
  refine zW.mono (b' := (1 + 18, 0 + 450)) ⟨by decide, by decide⟩ ?_
  refine z_callI (b' := (1, 0)) (b'' := (18, 450)) (av := []) (st := [zP (o + 1), zP (o)]) eX0_init_9 vX0_11.1 vX0_11.2.1 vX0_11.2.2 (n_X10 (zlay_s' (by omega)) (by omega)) (Nat.le_of_ble_eq_true rfl) (by omega) rfl (Nat.le_of_ble_eq_true rfl) (fun r l1 c1 m1 q => ?_) (fun E9 l9 c9 m9 q => by obtain ⟨q1, q2⟩ := q; cases q1)
  obtain ⟨q1, h1, hm1⟩ := q
  have e9 := Sum.inl.inj q1
  subst e9
  subst hm1
  refine z_pfP (j := 0) lX0_12 eX0_init_12 rfl rfl ((h1.bl _ (by omega)).trans ((zlay_o (by omega)).trans (ho' _ (by omega)))) rfl hnm ?_
  refine z_al0 eX0_init_15 hne ?_
  refine zW.mono (b' := (17 + 1, 435 + 15)) ⟨by decide, by decide⟩ ?_
  refine z_new (ci := 1) eX0_init_16 rfl rfl nX0_18.1 nX0_18.2.1 nX0_18.2.2 ?_
  refine z_dup eX0_init_19 (Nat.ne_of_beq_eq_false rfl) ?_
  refine zW.mono (b' := (17 + 0, 435 + 0)) ⟨by decide, by decide⟩ ?_
  refine z_callI (b' := (17, 435)) (b'' := (0, 0)) (av := []) (st := [zP (o + 1 + 2), zP (o)]) eX0_init_20 vX0_20.1 vX0_20.2.1 vX0_20.2.2 (n_X1 (zlay_s' (by omega)) (by omega)) (Nat.le_of_ble_eq_true rfl) (by omega) rfl (Nat.le_of_ble_eq_true rfl) (fun r l2 c2 m2 q => ?_) (fun E9 l9 c9 m9 q => by obtain ⟨q1, q2⟩ := q; cases q1)
  obtain ⟨q1, h2, hm2⟩ := q
  have e9 := Sum.inl.inj q1
  subst e9
  subst hm2
  refine z_pfP (j := 1) lX0_21 eX0_init_23 rfl rfl ((h2.bl _ (by omega)).trans ((zlay_o (by omega)).trans ((h1.bl _ (by omega)).trans ((zlay_o (by omega)).trans (ho' _ (by omega)))))) rfl hnm ?_
  refine z_return eX0_init_26 rfl ?_
  exact ⟨rfl, ⟨fun p hp => (h2.bl _ (by omega)).trans ((zlay_o (by omega)).trans ((h1.bl _ (by omega)).trans ((zlay_o (by omega)).trans (rfl)))),
    fun p hp => (zset_o (by omega)).trans ((h2.bc _ (by omega)).trans ((zborn_o (by omega)).trans ((zset_o (by omega)).trans ((h1.bc _ (by omega)).trans ((zborn_o (by omega)).trans (rfl)))))),
    fun p hp => (h2.bl _ (by omega)).trans ((zlay_o (by omega)).trans ((h1.bl _ (by omega)).trans ((zlay_o (by omega)).trans (ho' _ (by omega))))),
    fun p hp => (h2.bl _ (by omega)).trans ((zlay_o (by omega)).trans (h1.l0 _ (by omega))),
    fun p hp => (h2.bl _ (by omega)).trans ((zlay_o (by omega)).trans (h1.l1 _ (by omega))),
    fun p hp => h2.l0 _ (by omega),
    fun p hp => h2.l1 _ (by omega),
    fun p hp => h2.l2 _ (by omega),
    fun p hp => h2.l3 _ (by omega),
    fun p hp => h2.l4 _ (by omega),
    fun p hp => h2.l5 _ (by omega),
    fun p hp => h2.l6 _ (by omega),
    fun p hp => h2.l7 _ (by omega),
    fun p hp => h2.l8 _ (by omega),
    fun p hp => h2.l9 _ (by omega),
    fun p hp => h2.l10 _ (by omega),
    fun p hp => h2.l11 _ (by omega),
    fun p hp => h2.l12 _ (by omega),
    fun p hp => h2.l13 _ (by omega),
    fun p hp => h2.l14 _ (by omega),
    fun p hp => h2.l15 _ (by omega),
    fun p hp => h2.l16 _ (by omega),
    fun p hp => h2.l17 _ (by omega),
    fun p hp => (zset_n (Or.inl (by omega))).trans ((congrFun (h2.bc _ (by omega)) _).trans ((zborn_n (by omega)).trans ((zset_n (Or.inl (by omega))).trans ((h1.r0_1 _ (by omega)).trans (by omega))))),
    fun p hp => (zset_n (Or.inr (by decide))).trans ((congrFun (h2.bc _ (by omega)) _).trans ((zborn_n (by omega)).trans ((zset_s' (by omega)).trans (by omega)))),
    fun p hp => (zset_n (Or.inl (by omega))).trans ((h2.r0_2 _ (by omega)).trans (by omega)),
    fun p hp => (zset_n (Or.inl (by omega))).trans ((h2.r0_3 _ (by omega)).trans (by omega)),
    fun p hp => (zset_n (Or.inl (by omega))).trans ((h2.r0_6 _ (by omega)).trans (by omega)),
    fun p hp => (zset_n (Or.inl (by omega))).trans ((h2.r4_4 _ (by omega)).trans (by omega)),
    fun p hp => (zset_n (Or.inl (by omega))).trans ((h2.r4_5 _ (by omega)).trans (by omega)),
    fun p hp => (zset_n (Or.inl (by omega))).trans ((h2.r4_6 _ (by omega)).trans (by omega)),
    fun p hp => (zset_n (Or.inl (by omega))).trans ((h2.r0_11 _ (by omega)).trans (by omega)),
    fun p hp => (zset_n (Or.inl (by omega))).trans ((h2.r8_1 _ (by omega)).trans (by omega)),
    fun p hp => (zset_n (Or.inl (by omega))).trans ((h2.r8_2 _ (by omega)).trans (by omega)),
    fun p hp => (zset_n (Or.inl (by omega))).trans ((h2.r8_3 _ (by omega)).trans (by omega)),
    fun p hp => (zset_n (Or.inl (by omega))).trans ((h2.r8_4 _ (by omega)).trans (by omega)),
    fun p hp => (zset_n (Or.inl (by omega))).trans ((h2.r8_5 _ (by omega)).trans (by omega)),
    fun p hp => (zset_n (Or.inl (by omega))).trans ((h2.r8_6 _ (by omega)).trans (by omega)),
    fun p hp => (zset_n (Or.inl (by omega))).trans ((h2.r0_12 _ (by omega)).trans (by omega)),
    fun p hp => (zset_n (Or.inl (by omega))).trans ((h2.r15_1 _ (by omega)).trans (by omega)),
    fun p hp => (zset_n (Or.inl (by omega))).trans ((h2.r0_13 _ (by omega)).trans (by omega)),
    fun p hp => (zset_n (Or.inl (by omega))).trans ((h2.r0_14 _ (by omega)).trans (by omega)),
    fun p hp => (zset_s' (by omega)).trans (by omega),
    trivial⟩, by omega⟩
def NwX2 (lay l : zLay) (C c : zMem) (o : Int) : Prop := (∀ p, p < o → l p = lay p) ∧ (∀ p, p < o → c p = C p) ∧ (∀ p, p = o + 0 → l p = (3, 3)) ∧ (∀ p, p = o + 1 → l p = (100, 12)) ∧ (∀ p, p = o + 2 → l p = (100, 5)) ∧ (∀ p, p = o + 3 → l p = (100, 5)) ∧ (∀ p, p = o + 0 → c p 0 = o + 1) ∧ (∀ p, p = o + 0 → c p 1 = o + 2) ∧ (∀ p, p = o + 0 → c p 2 = o + 3) ∧ (True)
theorem NwX2.bl {lay l : zLay} {C c : zMem} {o : Int} (h : NwX2 lay l C c o) : ∀ p, p < o → l p = lay p := h.1
theorem NwX2.bc {lay l : zLay} {C c : zMem} {o : Int} (h : NwX2 lay l C c o) : ∀ p, p < o → c p = C p := h.2.1
theorem NwX2.l0 {lay l : zLay} {C c : zMem} {o : Int} (h : NwX2 lay l C c o) : ∀ p, p = o + 0 → l p = (3, 3) := h.2.2.1
theorem NwX2.l1 {lay l : zLay} {C c : zMem} {o : Int} (h : NwX2 lay l C c o) : ∀ p, p = o + 1 → l p = (100, 12) := h.2.2.2.1
theorem NwX2.l2 {lay l : zLay} {C c : zMem} {o : Int} (h : NwX2 lay l C c o) : ∀ p, p = o + 2 → l p = (100, 5) := h.2.2.2.2.1
theorem NwX2.l3 {lay l : zLay} {C c : zMem} {o : Int} (h : NwX2 lay l C c o) : ∀ p, p = o + 3 → l p = (100, 5) := h.2.2.2.2.2.1
theorem NwX2.r0_0 {lay l : zLay} {C c : zMem} {o : Int} (h : NwX2 lay l C c o) : ∀ p, p = o + 0 → c p 0 = o + 1 := h.2.2.2.2.2.2.1
theorem NwX2.r0_1 {lay l : zLay} {C c : zMem} {o : Int} (h : NwX2 lay l C c o) : ∀ p, p = o + 0 → c p 1 = o + 2 := h.2.2.2.2.2.2.2.1
theorem NwX2.r0_2 {lay l : zLay} {C c : zMem} {o : Int} (h : NwX2 lay l C c o) : ∀ p, p = o + 0 → c p 2 = o + 3 := h.2.2.2.2.2.2.2.2.1
theorem NwX2.z {lay l : zLay} {C c : zMem} {o : Int} (h : NwX2 lay l C c o) : True := h.2.2.2.2.2.2.2.2.2
theorem n_X2 {G : zG} {lay : zLay} {C : zMem} {o : Int} (ho : lay o = (3, 3)) (h0 : 0 ≤ o) : zMM G 2 KX2_init [zP o] lay C (o + 1) (3, 22) (fun r l c m => r = .inl none ∧ NwX2 lay l C c o ∧ m = o + 4) := by
  refine z_met' (L := [zP o]) gX2_init.1 rfl rfl (Nat.le_of_ble_eq_true rfl) rfl ?_
  have hne : o ≠ -1 := by omega
  have ho' : ∀ p, p = o + 0 → lay p = (3, 3) := fun p hp => by rw [hp, Int.add_zero]; exact ho
  have hnm : KX2_init.1.name = "<init>" ∧ (vwCl[2]?).map (·.1) = some RX2 := ⟨rfl, rfl⟩
  refine z_al0 eX2_init_0 hne ?_
  refine z_objInit eX2_init_1 oX2_3 hne (Nat.le_of_ble_eq_true rfl) (Nat.le_of_ble_eq_true rfl) ?_
  refine z_al0 eX2_init_4 hne ?_
  refine z_bipush eX2_init_5 (by decide) ?_
  refine zW.mono (b' := (2 + 1, 10 + (12 : Int).toNat)) ⟨by decide, by decide⟩ ?_
  refine z_newi eX2_init_7 w_ai ⟨by decide, by decide⟩ ?_
  refine z_pfP (j := 0) lX2_9 eX2_init_9 rfl rfl ((zlay_o (by omega)).trans (ho' _ (by omega))) rfl hnm ?_
  refine z_al0 eX2_init_12 hne ?_
  refine z_iconst eX2_init_13 ?_
  refine zW.mono (b' := (1 + 1, 5 + (5 : Int).toNat)) ⟨by decide, by decide⟩ ?_
  refine z_newi eX2_init_14 w_ai ⟨by decide, by decide⟩ ?_
  refine z_pfP (j := 1) lX2_15 eX2_init_16 rfl rfl ((zlay_o (by omega)).trans ((zlay_o (by omega)).trans (ho' _ (by omega)))) rfl hnm ?_
  refine z_al0 eX2_init_19 hne ?_
  refine z_iconst eX2_init_20 ?_
  refine zW.mono (b' := (0 + 1, 0 + (5 : Int).toNat)) ⟨by decide, by decide⟩ ?_
  refine z_newi eX2_init_21 w_ai ⟨by decide, by decide⟩ ?_
  refine z_pfP (j := 2) lX2_18 eX2_init_23 rfl rfl ((zlay_o (by omega)).trans ((zlay_o (by omega)).trans ((zlay_o (by omega)).trans (ho' _ (by omega))))) rfl hnm ?_
  refine z_return eX2_init_26 rfl ?_
  exact ⟨rfl, ⟨fun p hp => (zlay_o (by omega)).trans ((zlay_o (by omega)).trans ((zlay_o (by omega)).trans (rfl))),
    fun p hp => (zset_o (by omega)).trans ((zzero_o (by omega)).trans ((zset_o (by omega)).trans ((zzero_o (by omega)).trans ((zset_o (by omega)).trans ((zzero_o (by omega)).trans (rfl)))))),
    fun p hp => (zlay_o (by omega)).trans ((zlay_o (by omega)).trans ((zlay_o (by omega)).trans (ho' _ (by omega)))),
    fun p hp => (zlay_o (by omega)).trans ((zlay_o (by omega)).trans (zlay_s' (by omega))),
    fun p hp => (zlay_o (by omega)).trans (zlay_s' (by omega)),
    fun p hp => zlay_s' (by omega),
    fun p hp => (zset_n (Or.inr (by decide))).trans ((zzero_n (by omega)).trans ((zset_n (Or.inr (by decide))).trans ((zzero_n (by omega)).trans ((zset_s' (by omega)).trans (by omega))))),
    fun p hp => (zset_n (Or.inr (by decide))).trans ((zzero_n (by omega)).trans ((zset_s' (by omega)).trans (by omega))),
    fun p hp => (zset_s' (by omega)).trans (by omega),
    trivial⟩, by omega⟩
def NwX8 (lay l : zLay) (C c : zMem) (o : Int) : Prop := (∀ p, p < o → l p = lay p) ∧ (∀ p, p < o → c p = C p) ∧ (∀ p, p = o + 0 → l p = (9, 4)) ∧ (∀ p, p = o + 1 → l p = (100, 8)) ∧ (∀ p, p = o + 2 → l p = (100, 8)) ∧ (∀ p, p = o + 0 → c p 1 = o + 1) ∧ (∀ p, p = o + 0 → c p 3 = o + 2) ∧ (True)
theorem NwX8.bl {lay l : zLay} {C c : zMem} {o : Int} (h : NwX8 lay l C c o) : ∀ p, p < o → l p = lay p := h.1
theorem NwX8.bc {lay l : zLay} {C c : zMem} {o : Int} (h : NwX8 lay l C c o) : ∀ p, p < o → c p = C p := h.2.1
theorem NwX8.l0 {lay l : zLay} {C c : zMem} {o : Int} (h : NwX8 lay l C c o) : ∀ p, p = o + 0 → l p = (9, 4) := h.2.2.1
theorem NwX8.l1 {lay l : zLay} {C c : zMem} {o : Int} (h : NwX8 lay l C c o) : ∀ p, p = o + 1 → l p = (100, 8) := h.2.2.2.1
theorem NwX8.l2 {lay l : zLay} {C c : zMem} {o : Int} (h : NwX8 lay l C c o) : ∀ p, p = o + 2 → l p = (100, 8) := h.2.2.2.2.1
theorem NwX8.r0_1 {lay l : zLay} {C c : zMem} {o : Int} (h : NwX8 lay l C c o) : ∀ p, p = o + 0 → c p 1 = o + 1 := h.2.2.2.2.2.1
theorem NwX8.r0_3 {lay l : zLay} {C c : zMem} {o : Int} (h : NwX8 lay l C c o) : ∀ p, p = o + 0 → c p 3 = o + 2 := h.2.2.2.2.2.2.1
theorem NwX8.z {lay l : zLay} {C c : zMem} {o : Int} (h : NwX8 lay l C c o) : True := h.2.2.2.2.2.2.2
theorem n_X8 {G : zG} {lay : zLay} {C : zMem} {o : Int} (ho : lay o = (9, 4)) (h0 : 0 ≤ o) : zMM G 2 KX8_init [zP o] lay C (o + 1) (2, 16) (fun r l c m => r = .inl none ∧ NwX8 lay l C c o ∧ m = o + 3) := by
  refine z_met' (L := [zP o]) gX8_init.1 rfl rfl (Nat.le_of_ble_eq_true rfl) rfl ?_
  have hne : o ≠ -1 := by omega
  have ho' : ∀ p, p = o + 0 → lay p = (9, 4) := fun p hp => by rw [hp, Int.add_zero]; exact ho
  have hnm : KX8_init.1.name = "<init>" ∧ (vwCl[8]?).map (·.1) = some RX8 := ⟨rfl, rfl⟩
  refine z_al0 eX8_init_0 hne ?_
  refine z_objInit eX8_init_1 oX8_3 hne (Nat.le_of_ble_eq_true rfl) (Nat.le_of_ble_eq_true rfl) ?_
  refine z_al0 eX8_init_4 hne ?_
  refine z_bipush eX8_init_5 (by decide) ?_
  refine zW.mono (b' := (1 + 1, 8 + (8 : Int).toNat)) ⟨by decide, by decide⟩ ?_
  refine z_newi eX8_init_7 w_ai ⟨by decide, by decide⟩ ?_
  refine z_pfP (j := 1) lX8_9 eX8_init_9 rfl rfl ((zlay_o (by omega)).trans (ho' _ (by omega))) rfl hnm ?_
  refine z_al0 eX8_init_12 hne ?_
  refine z_bipush eX8_init_13 (by decide) ?_
  refine zW.mono (b' := (0 + 1, 0 + (8 : Int).toNat)) ⟨by decide, by decide⟩ ?_
  refine z_newi eX8_init_15 w_ai ⟨by decide, by decide⟩ ?_
  refine z_pfP (j := 3) lX8_15 eX8_init_17 rfl rfl ((zlay_o (by omega)).trans ((zlay_o (by omega)).trans (ho' _ (by omega)))) rfl hnm ?_
  refine z_return eX8_init_20 rfl ?_
  exact ⟨rfl, ⟨fun p hp => (zlay_o (by omega)).trans ((zlay_o (by omega)).trans (rfl)),
    fun p hp => (zset_o (by omega)).trans ((zzero_o (by omega)).trans ((zset_o (by omega)).trans ((zzero_o (by omega)).trans (rfl)))),
    fun p hp => (zlay_o (by omega)).trans ((zlay_o (by omega)).trans (ho' _ (by omega))),
    fun p hp => (zlay_o (by omega)).trans (zlay_s' (by omega)),
    fun p hp => zlay_s' (by omega),
    fun p hp => (zset_n (Or.inr (by decide))).trans ((zzero_n (by omega)).trans ((zset_s' (by omega)).trans (by omega))),
    fun p hp => (zset_s' (by omega)).trans (by omega),
    trivial⟩, by omega⟩
def NwX7 (lay l : zLay) (C c : zMem) (o : Int) : Prop := (∀ p, p < o → l p = lay p) ∧ (∀ p, p < o → c p = C p) ∧ (∀ p, p = o + 0 → l p = (8, 4)) ∧ (∀ p, p = o + 1 → l p = (100, 3328)) ∧ (∀ p, p = o + 2 → l p = (100, 96)) ∧ (∀ p, p = o + 0 → c p 0 = o + 1) ∧ (∀ p, p = o + 0 → c p 1 = o + 2) ∧ (True)
theorem NwX7.bl {lay l : zLay} {C c : zMem} {o : Int} (h : NwX7 lay l C c o) : ∀ p, p < o → l p = lay p := h.1
theorem NwX7.bc {lay l : zLay} {C c : zMem} {o : Int} (h : NwX7 lay l C c o) : ∀ p, p < o → c p = C p := h.2.1
theorem NwX7.l0 {lay l : zLay} {C c : zMem} {o : Int} (h : NwX7 lay l C c o) : ∀ p, p = o + 0 → l p = (8, 4) := h.2.2.1
theorem NwX7.l1 {lay l : zLay} {C c : zMem} {o : Int} (h : NwX7 lay l C c o) : ∀ p, p = o + 1 → l p = (100, 3328) := h.2.2.2.1
theorem NwX7.l2 {lay l : zLay} {C c : zMem} {o : Int} (h : NwX7 lay l C c o) : ∀ p, p = o + 2 → l p = (100, 96) := h.2.2.2.2.1
theorem NwX7.r0_0 {lay l : zLay} {C c : zMem} {o : Int} (h : NwX7 lay l C c o) : ∀ p, p = o + 0 → c p 0 = o + 1 := h.2.2.2.2.2.1
theorem NwX7.r0_1 {lay l : zLay} {C c : zMem} {o : Int} (h : NwX7 lay l C c o) : ∀ p, p = o + 0 → c p 1 = o + 2 := h.2.2.2.2.2.2.1
theorem NwX7.z {lay l : zLay} {C c : zMem} {o : Int} (h : NwX7 lay l C c o) : True := h.2.2.2.2.2.2.2
theorem n_X7 {G : zG} {lay : zLay} {C : zMem} {o : Int} (ho : lay o = (8, 4)) (h0 : 0 ≤ o) : zMM G 2 KX7_init [zP o] lay C (o + 1) (2, 3424) (fun r l c m => r = .inl none ∧ NwX7 lay l C c o ∧ m = o + 3) := by
  refine z_met' (L := [zP o]) gX7_init.1 rfl rfl (Nat.le_of_ble_eq_true rfl) rfl ?_
  have hne : o ≠ -1 := by omega
  have ho' : ∀ p, p = o + 0 → lay p = (8, 4) := fun p hp => by rw [hp, Int.add_zero]; exact ho
  have hnm : KX7_init.1.name = "<init>" ∧ (vwCl[7]?).map (·.1) = some RX7 := ⟨rfl, rfl⟩
  refine z_al0 eX7_init_0 hne ?_
  refine z_objInit eX7_init_1 oX7_3 hne (Nat.le_of_ble_eq_true rfl) (Nat.le_of_ble_eq_true rfl) ?_
  refine z_al0 eX7_init_4 hne ?_
  refine z_sipush eX7_init_5 (by decide) ?_
  refine zW.mono (b' := (1 + 1, 96 + (3328 : Int).toNat)) ⟨by decide, by decide⟩ ?_
  refine z_newi eX7_init_8 w_ai ⟨by decide, by decide⟩ ?_
  refine z_pfP (j := 0) lX7_9 eX7_init_10 rfl rfl ((zlay_o (by omega)).trans (ho' _ (by omega))) rfl hnm ?_
  refine z_al0 eX7_init_13 hne ?_
  refine z_bipush eX7_init_14 (by decide) ?_
  refine zW.mono (b' := (0 + 1, 0 + (96 : Int).toNat)) ⟨by decide, by decide⟩ ?_
  refine z_newi eX7_init_16 w_ai ⟨by decide, by decide⟩ ?_
  refine z_pfP (j := 1) lX7_15 eX7_init_18 rfl rfl ((zlay_o (by omega)).trans ((zlay_o (by omega)).trans (ho' _ (by omega)))) rfl hnm ?_
  refine z_return eX7_init_21 rfl ?_
  exact ⟨rfl, ⟨fun p hp => (zlay_o (by omega)).trans ((zlay_o (by omega)).trans (rfl)),
    fun p hp => (zset_o (by omega)).trans ((zzero_o (by omega)).trans ((zset_o (by omega)).trans ((zzero_o (by omega)).trans (rfl)))),
    fun p hp => (zlay_o (by omega)).trans ((zlay_o (by omega)).trans (ho' _ (by omega))),
    fun p hp => (zlay_o (by omega)).trans (zlay_s' (by omega)),
    fun p hp => zlay_s' (by omega),
    fun p hp => (zset_n (Or.inr (by decide))).trans ((zzero_n (by omega)).trans ((zset_s' (by omega)).trans (by omega))),
    fun p hp => (zset_s' (by omega)).trans (by omega),
    trivial⟩, by omega⟩
