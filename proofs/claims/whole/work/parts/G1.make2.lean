/-! The class itself, made. -/
theorem zKn.ao {G : zG} {s : State} (hK : zKn G s) : va_AO RX1 s := hK.2.2.2.2.2.2.2.1.2
def NwX3 (lay l : zLay) (C c : zMem) (o : Int) : Prop := (∀ p, p < o → l p = lay p) ∧ (∀ p, p < o → c p = C p) ∧ (∀ p, p = o + 0 → l p = (4, 7)) ∧ (∀ p, p = o + 1 → l p = (100, 12)) ∧ (∀ p, p = o + 2 → l p = (100, 12)) ∧ (∀ p, p = o + 3 → l p = (100, 12)) ∧ (∀ p, p = o + 4 → l p = (100, 0)) ∧ (∀ p, p = o + 5 → l p = (100, 24)) ∧ (True)
theorem NwX3.bl {lay l : zLay} {C c : zMem} {o : Int} (h : NwX3 lay l C c o) : ∀ p, p < o → l p = lay p := h.1
theorem NwX3.bc {lay l : zLay} {C c : zMem} {o : Int} (h : NwX3 lay l C c o) : ∀ p, p < o → c p = C p := h.2.1
theorem NwX3.l0 {lay l : zLay} {C c : zMem} {o : Int} (h : NwX3 lay l C c o) : ∀ p, p = o + 0 → l p = (4, 7) := h.2.2.1
theorem NwX3.l1 {lay l : zLay} {C c : zMem} {o : Int} (h : NwX3 lay l C c o) : ∀ p, p = o + 1 → l p = (100, 12) := h.2.2.2.1
theorem NwX3.l2 {lay l : zLay} {C c : zMem} {o : Int} (h : NwX3 lay l C c o) : ∀ p, p = o + 2 → l p = (100, 12) := h.2.2.2.2.1
theorem NwX3.l3 {lay l : zLay} {C c : zMem} {o : Int} (h : NwX3 lay l C c o) : ∀ p, p = o + 3 → l p = (100, 12) := h.2.2.2.2.2.1
theorem NwX3.l4 {lay l : zLay} {C c : zMem} {o : Int} (h : NwX3 lay l C c o) : ∀ p, p = o + 4 → l p = (100, 0) := h.2.2.2.2.2.2.1
theorem NwX3.l5 {lay l : zLay} {C c : zMem} {o : Int} (h : NwX3 lay l C c o) : ∀ p, p = o + 5 → l p = (100, 24) := h.2.2.2.2.2.2.2.1
theorem NwX3.z {lay l : zLay} {C c : zMem} {o : Int} (h : NwX3 lay l C c o) : True := h.2.2.2.2.2.2.2.2
theorem n_X3 {G : zG} {lay : zLay} {C : zMem} {o : Int} (ho : lay o = (4, 7)) (h0 : 0 ≤ o) : zMM G 2 KX3_init [zP o, zI 0] lay C (o + 1) (5, 460) (fun r l c m => r = .inl none ∧ NwX3 lay l C c o ∧ m = o + 6) := by
  refine (c_X3_init ho ⟨h0, by omega⟩ ⟨by decide, by decide⟩).imp ?_
  rintro r l c m ⟨q1, ⟨a, ⟨b0, b1, b2, b3, b4⟩, d, e⟩, q3⟩
  exact ⟨q1, ⟨fun p hp => a p (Or.inl (by omega)), fun p hp => d p (Or.inl (by omega)) (by omega), fun p hp => by rw [hp, Int.add_zero, a o (Or.inl (by omega))]; exact ho, fun p hp => by rw [hp]; exact b0, fun p hp => by rw [show p = o + 1 + 1 by omega]; exact b1, fun p hp => by rw [show p = o + 1 + 2 by omega]; exact b2, fun p hp => by rw [show p = o + 1 + 3 by omega]; exact b3, fun p hp => by rw [show p = o + 1 + 4 by omega]; exact b4, trivial⟩, by omega⟩
def NwX4 (lay l : zLay) (C c : zMem) (o : Int) : Prop := (∀ p, p < o → l p = lay p) ∧ (∀ p, p < o → c p = C p) ∧ (∀ p, p = o + 0 → l p = (5, 2)) ∧ (∀ p, p = o + 1 → l p = (11, 6)) ∧ (∀ p, p = o + 2 → l p = (100, 0)) ∧ (∀ p, p = o + 3 → l p = (4, 7)) ∧ (∀ p, p = o + 4 → l p = (100, 12)) ∧ (∀ p, p = o + 5 → l p = (100, 12)) ∧ (∀ p, p = o + 6 → l p = (100, 12)) ∧ (∀ p, p = o + 7 → l p = (100, 0)) ∧ (∀ p, p = o + 8 → l p = (100, 24)) ∧ (∀ p, p = o + 1 → c p 1 = o + 2) ∧ (∀ p, p = o + 0 → c p 0 = o + 1) ∧ (∀ p, p = o + 0 → c p 1 = o + 3) ∧ (True)
theorem NwX4.bl {lay l : zLay} {C c : zMem} {o : Int} (h : NwX4 lay l C c o) : ∀ p, p < o → l p = lay p := h.1
theorem NwX4.bc {lay l : zLay} {C c : zMem} {o : Int} (h : NwX4 lay l C c o) : ∀ p, p < o → c p = C p := h.2.1
theorem NwX4.l0 {lay l : zLay} {C c : zMem} {o : Int} (h : NwX4 lay l C c o) : ∀ p, p = o + 0 → l p = (5, 2) := h.2.2.1
theorem NwX4.l1 {lay l : zLay} {C c : zMem} {o : Int} (h : NwX4 lay l C c o) : ∀ p, p = o + 1 → l p = (11, 6) := h.2.2.2.1
theorem NwX4.l2 {lay l : zLay} {C c : zMem} {o : Int} (h : NwX4 lay l C c o) : ∀ p, p = o + 2 → l p = (100, 0) := h.2.2.2.2.1
theorem NwX4.l3 {lay l : zLay} {C c : zMem} {o : Int} (h : NwX4 lay l C c o) : ∀ p, p = o + 3 → l p = (4, 7) := h.2.2.2.2.2.1
theorem NwX4.l4 {lay l : zLay} {C c : zMem} {o : Int} (h : NwX4 lay l C c o) : ∀ p, p = o + 4 → l p = (100, 12) := h.2.2.2.2.2.2.1
theorem NwX4.l5 {lay l : zLay} {C c : zMem} {o : Int} (h : NwX4 lay l C c o) : ∀ p, p = o + 5 → l p = (100, 12) := h.2.2.2.2.2.2.2.1
theorem NwX4.l6 {lay l : zLay} {C c : zMem} {o : Int} (h : NwX4 lay l C c o) : ∀ p, p = o + 6 → l p = (100, 12) := h.2.2.2.2.2.2.2.2.1
theorem NwX4.l7 {lay l : zLay} {C c : zMem} {o : Int} (h : NwX4 lay l C c o) : ∀ p, p = o + 7 → l p = (100, 0) := h.2.2.2.2.2.2.2.2.2.1
theorem NwX4.l8 {lay l : zLay} {C c : zMem} {o : Int} (h : NwX4 lay l C c o) : ∀ p, p = o + 8 → l p = (100, 24) := h.2.2.2.2.2.2.2.2.2.2.1
theorem NwX4.r1_1 {lay l : zLay} {C c : zMem} {o : Int} (h : NwX4 lay l C c o) : ∀ p, p = o + 1 → c p 1 = o + 2 := h.2.2.2.2.2.2.2.2.2.2.2.1
theorem NwX4.r0_0 {lay l : zLay} {C c : zMem} {o : Int} (h : NwX4 lay l C c o) : ∀ p, p = o + 0 → c p 0 = o + 1 := h.2.2.2.2.2.2.2.2.2.2.2.2.1
theorem NwX4.r0_1 {lay l : zLay} {C c : zMem} {o : Int} (h : NwX4 lay l C c o) : ∀ p, p = o + 0 → c p 1 = o + 3 := h.2.2.2.2.2.2.2.2.2.2.2.2.2.1
theorem NwX4.z {lay l : zLay} {C c : zMem} {o : Int} (h : NwX4 lay l C c o) : True := h.2.2.2.2.2.2.2.2.2.2.2.2.2.2
theorem n_X4 {G : zG} {lay : zLay} {C : zMem} {o : Int} (ho : lay o = (5, 2)) (h0 : 0 ≤ o) : zMM G 3 KX4_init [zP o] lay C (o + 1) (8, 473) (fun r l c m => r = .inl none ∧ NwX4 lay l C c o ∧ m = o + 9) := by
  refine z_met' (L := [zP o]) gX4_init.1 rfl rfl (Nat.le_of_ble_eq_true rfl) rfl ?_
  have hne : o ≠ -1 := by omega
  have ho' : ∀ p, p = o + 0 → lay p = (5, 2) := fun p hp => by rw [hp, Int.add_zero]; exact ho
  have hnm : KX4_init.1.name = "<init>" ∧ (vwCl[4]?).map (·.1) = some RX4 := ⟨rfl, rfl⟩
  refine z_al0 eX4_init_0 hne ?_
  refine z_objInit eX4_init_1 oX4_3 hne (Nat.le_of_ble_eq_true rfl) (Nat.le_of_ble_eq_true rfl) ?_
  refine z_al0 eX4_init_4 hne ?_
  refine zW.mono (b' := (7 + 1, 467 + 6)) ⟨by decide, by decide⟩ ?_
  refine z_new (ci := 10) eX4_init_5 rfl rfl nX4_9.1 nX4_9.2.1 nX4_9.2.2 ?_
  refine z_dup eX4_init_8 (Nat.ne_of_beq_eq_false rfl) ?_
  refine zW.mono (b' := (1 + 6, 0 + 467)) ⟨by decide, by decide⟩ ?_
  refine z_callI (b' := (1, 0)) (b'' := (6, 467)) (av := []) (st := [zP (o + 1), zP (o)]) eX4_init_9 vX4_11.1 vX4_11.2.1 vX4_11.2.2 (n_X10 (zlay_s' (by omega)) (by omega)) (Nat.le_of_ble_eq_true rfl) (by omega) rfl (Nat.le_of_ble_eq_true rfl) (fun r l1 c1 m1 q => ?_) (fun E9 l9 c9 m9 q => by obtain ⟨q1, q2⟩ := q; cases q1)
  obtain ⟨q1, h1, hm1⟩ := q
  have e9 := Sum.inl.inj q1
  subst e9
  subst hm1
  refine z_pfP (j := 0) lX4_12 eX4_init_12 rfl rfl ((h1.bl _ (by omega)).trans ((zlay_o (by omega)).trans (ho' _ (by omega)))) rfl hnm ?_
  refine z_al0 eX4_init_15 hne ?_
  refine zW.mono (b' := (5 + 1, 460 + 7)) ⟨by decide, by decide⟩ ?_
  refine z_new (ci := 3) eX4_init_16 rfl rfl nX4_18.1 nX4_18.2.1 nX4_18.2.2 ?_
  refine z_dup eX4_init_19 (Nat.ne_of_beq_eq_false rfl) ?_
  refine z_iconst eX4_init_20 ?_
  refine zW.mono (b' := (5 + 0, 460 + 0)) ⟨by decide, by decide⟩ ?_
  refine z_callI (b' := (5, 460)) (b'' := (0, 0)) (av := [zI 0]) (st := [zP (o + 1 + 2), zP (o)]) eX4_init_21 vX4_20.1 vX4_20.2.1 vX4_20.2.2 (n_X3 (zlay_s' (by omega)) (by omega)) (Nat.le_of_ble_eq_true rfl) (by omega) rfl (Nat.le_of_ble_eq_true rfl) (fun r l2 c2 m2 q => ?_) (fun E9 l9 c9 m9 q => by obtain ⟨q1, q2⟩ := q; cases q1)
  obtain ⟨q1, h2, hm2⟩ := q
  have e9 := Sum.inl.inj q1
  subst e9
  subst hm2
  refine z_pfP (j := 1) lX4_23 eX4_init_24 rfl rfl ((h2.bl _ (by omega)).trans ((zlay_o (by omega)).trans ((h1.bl _ (by omega)).trans ((zlay_o (by omega)).trans (ho' _ (by omega)))))) rfl hnm ?_
  refine z_return eX4_init_27 rfl ?_
  exact ⟨rfl, ⟨fun p hp => (h2.bl _ (by omega)).trans ((zlay_o (by omega)).trans ((h1.bl _ (by omega)).trans ((zlay_o (by omega)).trans (rfl)))),
    fun p hp => (zset_o (by omega)).trans ((h2.bc _ (by omega)).trans ((zborn_o (by omega)).trans ((zset_o (by omega)).trans ((h1.bc _ (by omega)).trans ((zborn_o (by omega)).trans (rfl)))))),
    fun p hp => (h2.bl _ (by omega)).trans ((zlay_o (by omega)).trans ((h1.bl _ (by omega)).trans ((zlay_o (by omega)).trans (ho' _ (by omega))))),
    fun p hp => (h2.bl _ (by omega)).trans ((zlay_o (by omega)).trans (h1.l0 _ (by omega))),
    fun p hp => (h2.bl _ (by omega)).trans ((zlay_o (by omega)).trans (h1.l1 _ (by omega))),
    fun p hp => h2.l0 _ (by omega),
    fun p hp => h2.l1 _ (by omega),
    fun p hp => h2.l2 _ (by omega),
    fun p hp => h2.l3 _ (by omega),
    fun p hp => h2.l4 _ (by omega),
    fun p hp => h2.l5 _ (by omega),
    fun p hp => (zset_n (Or.inl (by omega))).trans ((congrFun (h2.bc _ (by omega)) _).trans ((zborn_n (by omega)).trans ((zset_n (Or.inl (by omega))).trans ((h1.r0_1 _ (by omega)).trans (by omega))))),
    fun p hp => (zset_n (Or.inr (by decide))).trans ((congrFun (h2.bc _ (by omega)) _).trans ((zborn_n (by omega)).trans ((zset_s' (by omega)).trans (by omega)))),
    fun p hp => (zset_s' (by omega)).trans (by omega),
    trivial⟩, by omega⟩
def NwX11a (lay l : zLay) (C c : zMem) (o : Int) : Prop := (∀ p, p < o → l p = lay p) ∧ (∀ p, p < o → c p = C p) ∧ (∀ p, p = o + 0 → l p = (12, 15)) ∧ (∀ p, p = o + 1 → l p = (100, 400)) ∧ (∀ p, p = o + 2 → l p = (2, 15)) ∧ (∀ p, p = o + 3 → l p = (100, 7)) ∧ (∀ p, p = o + 4 → l p = (100, 7)) ∧ (∀ p, p = o + 5 → l p = (100, 8)) ∧ (∀ p, p = o + 6 → l p = (10, 7)) ∧ (∀ p, p = o + 7 → l p = (100, 25)) ∧ (∀ p, p = o + 8 → l p = (100, 5)) ∧ (∀ p, p = o + 9 → l p = (100, 5)) ∧ (∀ p, p = o + 10 → l p = (7, 7)) ∧ (∀ p, p = o + 11 → l p = (100, 8)) ∧ (∀ p, p = o + 12 → l p = (100, 8)) ∧ (∀ p, p = o + 13 → l p = (100, 8)) ∧ (∀ p, p = o + 14 → l p = (100, 8)) ∧ (∀ p, p = o + 15 → l p = (100, 8)) ∧ (∀ p, p = o + 16 → l p = (100, 12)) ∧ (∀ p, p = o + 17 → l p = (6, 2)) ∧ (∀ p, p = o + 18 → l p = (100, 300)) ∧ (∀ p, p = o + 19 → l p = (100, 10)) ∧ (∀ p, p = o + 20 → l p = (2, 15)) ∧ (∀ p, p = o + 21 → l p = (100, 7)) ∧ (∀ p, p = o + 22 → l p = (100, 7)) ∧ (∀ p, p = o + 23 → l p = (100, 8)) ∧ (∀ p, p = o + 24 → l p = (10, 7)) ∧ (∀ p, p = o + 25 → l p = (100, 25)) ∧ (∀ p, p = o + 26 → l p = (100, 5)) ∧ (∀ p, p = o + 27 → l p = (100, 5)) ∧ (∀ p, p = o + 28 → l p = (7, 7)) ∧ (∀ p, p = o + 29 → l p = (100, 8)) ∧ (∀ p, p = o + 30 → l p = (100, 8)) ∧ (∀ p, p = o + 31 → l p = (100, 8)) ∧ (∀ p, p = o + 32 → l p = (100, 8)) ∧ (∀ p, p = o + 33 → l p = (100, 8)) ∧ (∀ p, p = o + 34 → l p = (100, 12)) ∧ (∀ p, p = o + 35 → l p = (6, 2)) ∧ (∀ p, p = o + 36 → l p = (100, 300)) ∧ (∀ p, p = o + 37 → l p = (100, 10)) ∧ (∀ p, p = o + 38 → l p = (2, 15)) ∧ (∀ p, p = o + 39 → l p = (100, 7)) ∧ (∀ p, p = o + 40 → l p = (100, 7)) ∧ (∀ p, p = o + 41 → l p = (100, 8)) ∧ (∀ p, p = o + 42 → l p = (10, 7)) ∧ (∀ p, p = o + 43 → l p = (100, 25)) ∧ (∀ p, p = o + 44 → l p = (100, 5)) ∧ (∀ p, p = o + 45 → l p = (100, 5)) ∧ (∀ p, p = o + 46 → l p = (7, 7)) ∧ (∀ p, p = o + 47 → l p = (100, 8)) ∧ (∀ p, p = o + 48 → l p = (100, 8)) ∧ (∀ p, p = o + 49 → l p = (100, 8)) ∧ (∀ p, p = o + 50 → l p = (100, 8)) ∧ (∀ p, p = o + 51 → l p = (100, 8)) ∧ (∀ p, p = o + 52 → l p = (100, 12)) ∧ (∀ p, p = o + 53 → l p = (6, 2)) ∧ (∀ p, p = o + 54 → l p = (100, 300)) ∧ (∀ p, p = o + 55 → l p = (100, 10)) ∧ (∀ p, p = o + 56 → l p = (102, 12)) ∧ (∀ p, p = o + 0 → c p 0 = o + 1) ∧ (∀ p, p = o + 2 → c p 2 = o + 3) ∧ (∀ p, p = o + 2 → c p 3 = o + 4) ∧ (∀ p, p = o + 2 → c p 6 = o + 5) ∧ (∀ p, p = o + 6 → c p 4 = o + 7) ∧ (∀ p, p = o + 6 → c p 5 = o + 8) ∧ (∀ p, p = o + 6 → c p 6 = o + 9) ∧ (∀ p, p = o + 2 → c p 11 = o + 6) ∧ (∀ p, p = o + 10 → c p 1 = o + 11) ∧ (∀ p, p = o + 10 → c p 2 = o + 12) ∧ (∀ p, p = o + 10 → c p 3 = o + 13) ∧ (∀ p, p = o + 10 → c p 4 = o + 14) ∧ (∀ p, p = o + 10 → c p 5 = o + 15) ∧ (∀ p, p = o + 10 → c p 6 = o + 16) ∧ (∀ p, p = o + 2 → c p 12 = o + 10) ∧ (∀ p, p = o + 17 → c p 1 = o + 18) ∧ (∀ p, p = o + 2 → c p 13 = o + 17) ∧ (∀ p, p = o + 2 → c p 14 = o + 19) ∧ (∀ p, p = o + 0 → c p 3 = o + 2) ∧ (∀ p, p = o + 20 → c p 2 = o + 21) ∧ (∀ p, p = o + 20 → c p 3 = o + 22) ∧ (∀ p, p = o + 20 → c p 6 = o + 23) ∧ (∀ p, p = o + 24 → c p 4 = o + 25) ∧ (∀ p, p = o + 24 → c p 5 = o + 26) ∧ (∀ p, p = o + 24 → c p 6 = o + 27) ∧ (∀ p, p = o + 20 → c p 11 = o + 24) ∧ (∀ p, p = o + 28 → c p 1 = o + 29) ∧ (∀ p, p = o + 28 → c p 2 = o + 30) ∧ (∀ p, p = o + 28 → c p 3 = o + 31) ∧ (∀ p, p = o + 28 → c p 4 = o + 32) ∧ (∀ p, p = o + 28 → c p 5 = o + 33) ∧ (∀ p, p = o + 28 → c p 6 = o + 34) ∧ (∀ p, p = o + 20 → c p 12 = o + 28) ∧ (∀ p, p = o + 35 → c p 1 = o + 36) ∧ (∀ p, p = o + 20 → c p 13 = o + 35) ∧ (∀ p, p = o + 20 → c p 14 = o + 37) ∧ (∀ p, p = o + 0 → c p 4 = o + 20) ∧ (∀ p, p = o + 38 → c p 2 = o + 39) ∧ (∀ p, p = o + 38 → c p 3 = o + 40) ∧ (∀ p, p = o + 38 → c p 6 = o + 41) ∧ (∀ p, p = o + 42 → c p 4 = o + 43) ∧ (∀ p, p = o + 42 → c p 5 = o + 44) ∧ (∀ p, p = o + 42 → c p 6 = o + 45) ∧ (∀ p, p = o + 38 → c p 11 = o + 42) ∧ (∀ p, p = o + 46 → c p 1 = o + 47) ∧ (∀ p, p = o + 46 → c p 2 = o + 48) ∧ (∀ p, p = o + 46 → c p 3 = o + 49) ∧ (∀ p, p = o + 46 → c p 4 = o + 50) ∧ (∀ p, p = o + 46 → c p 5 = o + 51) ∧ (∀ p, p = o + 46 → c p 6 = o + 52) ∧ (∀ p, p = o + 38 → c p 12 = o + 46) ∧ (∀ p, p = o + 53 → c p 1 = o + 54) ∧ (∀ p, p = o + 38 → c p 13 = o + 53) ∧ (∀ p, p = o + 38 → c p 14 = o + 55) ∧ (∀ p, p = o + 0 → c p 5 = o + 38) ∧ (∀ p, p = o + 0 → c p 7 = o + 56) ∧ (∀ p, p = o + 0 → c p 2 = -1) ∧ (∀ p, p = o + 2 → c p 0 = 0) ∧ (∀ p, p = o + 2 → c p 1 = 0) ∧ (∀ p, p = o + 2 → c p 4 = 0) ∧ (∀ p, p = o + 2 → c p 5 = 0) ∧ (∀ p, p = o + 2 → c p 10 = -1) ∧ (∀ p, p = o + 2 → c p 7 = 1) ∧ (∀ p, p = o + 2 → c p 8 = 3) ∧ (∀ p, p = o + 2 → c p 9 = 3) ∧ (∀ p, p = o + 6 → c p 0 = 1) ∧ (∀ p, p = o + 6 → c p 1 = 0) ∧ (∀ p, p = o + 6 → c p 2 = 0) ∧ (∀ p, p = o + 6 → c p 3 = 1) ∧ (∀ p, p = o + 10 → c p 0 = 0) ∧ (∀ p, p = o + 17 → c p 0 = 0) ∧ (∀ p j, p = o + 5 → 0 ≤ j → j < 8 → c p j = 5) ∧ (∀ p j, p = o + 7 → 0 ≤ j → j < 25 → c p j = 1) ∧ (∀ p j, p = o + 16 → 0 ≤ j → j < 12 → c p j = -1) ∧ (∀ p j, p = o + 1 → c p j = 0) ∧ (∀ p, p = o → c p 1 = C p 1) ∧ (∀ p, p = o → c p 6 = C p 6) ∧ (∀ p, p = o → c p 8 = C p 8) ∧ (∀ p, p = o → c p 9 = C p 9) ∧ (True)
theorem NwX11a.bl {lay l : zLay} {C c : zMem} {o : Int} (h : NwX11a lay l C c o) : ∀ p, p < o → l p = lay p := h.1
theorem NwX11a.bc {lay l : zLay} {C c : zMem} {o : Int} (h : NwX11a lay l C c o) : ∀ p, p < o → c p = C p := h.2.1
theorem NwX11a.l0 {lay l : zLay} {C c : zMem} {o : Int} (h : NwX11a lay l C c o) : ∀ p, p = o + 0 → l p = (12, 15) := h.2.2.1
theorem NwX11a.l1 {lay l : zLay} {C c : zMem} {o : Int} (h : NwX11a lay l C c o) : ∀ p, p = o + 1 → l p = (100, 400) := h.2.2.2.1
theorem NwX11a.l2 {lay l : zLay} {C c : zMem} {o : Int} (h : NwX11a lay l C c o) : ∀ p, p = o + 2 → l p = (2, 15) := h.2.2.2.2.1
theorem NwX11a.l3 {lay l : zLay} {C c : zMem} {o : Int} (h : NwX11a lay l C c o) : ∀ p, p = o + 3 → l p = (100, 7) := h.2.2.2.2.2.1
theorem NwX11a.l4 {lay l : zLay} {C c : zMem} {o : Int} (h : NwX11a lay l C c o) : ∀ p, p = o + 4 → l p = (100, 7) := h.2.2.2.2.2.2.1
theorem NwX11a.l5 {lay l : zLay} {C c : zMem} {o : Int} (h : NwX11a lay l C c o) : ∀ p, p = o + 5 → l p = (100, 8) := h.2.2.2.2.2.2.2.1
theorem NwX11a.l6 {lay l : zLay} {C c : zMem} {o : Int} (h : NwX11a lay l C c o) : ∀ p, p = o + 6 → l p = (10, 7) := h.2.2.2.2.2.2.2.2.1
theorem NwX11a.l7 {lay l : zLay} {C c : zMem} {o : Int} (h : NwX11a lay l C c o) : ∀ p, p = o + 7 → l p = (100, 25) := h.2.2.2.2.2.2.2.2.2.1
theorem NwX11a.l8 {lay l : zLay} {C c : zMem} {o : Int} (h : NwX11a lay l C c o) : ∀ p, p = o + 8 → l p = (100, 5) := h.2.2.2.2.2.2.2.2.2.2.1
theorem NwX11a.l9 {lay l : zLay} {C c : zMem} {o : Int} (h : NwX11a lay l C c o) : ∀ p, p = o + 9 → l p = (100, 5) := h.2.2.2.2.2.2.2.2.2.2.2.1
theorem NwX11a.l10 {lay l : zLay} {C c : zMem} {o : Int} (h : NwX11a lay l C c o) : ∀ p, p = o + 10 → l p = (7, 7) := h.2.2.2.2.2.2.2.2.2.2.2.2.1
theorem NwX11a.l11 {lay l : zLay} {C c : zMem} {o : Int} (h : NwX11a lay l C c o) : ∀ p, p = o + 11 → l p = (100, 8) := h.2.2.2.2.2.2.2.2.2.2.2.2.2.1
theorem NwX11a.l12 {lay l : zLay} {C c : zMem} {o : Int} (h : NwX11a lay l C c o) : ∀ p, p = o + 12 → l p = (100, 8) := h.2.2.2.2.2.2.2.2.2.2.2.2.2.2.1
theorem NwX11a.l13 {lay l : zLay} {C c : zMem} {o : Int} (h : NwX11a lay l C c o) : ∀ p, p = o + 13 → l p = (100, 8) := h.2.2.2.2.2.2.2.2.2.2.2.2.2.2.2.1
theorem NwX11a.l14 {lay l : zLay} {C c : zMem} {o : Int} (h : NwX11a lay l C c o) : ∀ p, p = o + 14 → l p = (100, 8) := h.2.2.2.2.2.2.2.2.2.2.2.2.2.2.2.2.1
theorem NwX11a.l15 {lay l : zLay} {C c : zMem} {o : Int} (h : NwX11a lay l C c o) : ∀ p, p = o + 15 → l p = (100, 8) := h.2.2.2.2.2.2.2.2.2.2.2.2.2.2.2.2.2.1
theorem NwX11a.l16 {lay l : zLay} {C c : zMem} {o : Int} (h : NwX11a lay l C c o) : ∀ p, p = o + 16 → l p = (100, 12) := h.2.2.2.2.2.2.2.2.2.2.2.2.2.2.2.2.2.2.1
theorem NwX11a.l17 {lay l : zLay} {C c : zMem} {o : Int} (h : NwX11a lay l C c o) : ∀ p, p = o + 17 → l p = (6, 2) := h.2.2.2.2.2.2.2.2.2.2.2.2.2.2.2.2.2.2.2.1
theorem NwX11a.l18 {lay l : zLay} {C c : zMem} {o : Int} (h : NwX11a lay l C c o) : ∀ p, p = o + 18 → l p = (100, 300) := h.2.2.2.2.2.2.2.2.2.2.2.2.2.2.2.2.2.2.2.2.1
theorem NwX11a.l19 {lay l : zLay} {C c : zMem} {o : Int} (h : NwX11a lay l C c o) : ∀ p, p = o + 19 → l p = (100, 10) := h.2.2.2.2.2.2.2.2.2.2.2.2.2.2.2.2.2.2.2.2.2.1
theorem NwX11a.l20 {lay l : zLay} {C c : zMem} {o : Int} (h : NwX11a lay l C c o) : ∀ p, p = o + 20 → l p = (2, 15) := h.2.2.2.2.2.2.2.2.2.2.2.2.2.2.2.2.2.2.2.2.2.2.1
theorem NwX11a.l21 {lay l : zLay} {C c : zMem} {o : Int} (h : NwX11a lay l C c o) : ∀ p, p = o + 21 → l p = (100, 7) := h.2.2.2.2.2.2.2.2.2.2.2.2.2.2.2.2.2.2.2.2.2.2.2.1
theorem NwX11a.l22 {lay l : zLay} {C c : zMem} {o : Int} (h : NwX11a lay l C c o) : ∀ p, p = o + 22 → l p = (100, 7) := h.2.2.2.2.2.2.2.2.2.2.2.2.2.2.2.2.2.2.2.2.2.2.2.2.1
theorem NwX11a.l23 {lay l : zLay} {C c : zMem} {o : Int} (h : NwX11a lay l C c o) : ∀ p, p = o + 23 → l p = (100, 8) := h.2.2.2.2.2.2.2.2.2.2.2.2.2.2.2.2.2.2.2.2.2.2.2.2.2.1
theorem NwX11a.l24 {lay l : zLay} {C c : zMem} {o : Int} (h : NwX11a lay l C c o) : ∀ p, p = o + 24 → l p = (10, 7) := h.2.2.2.2.2.2.2.2.2.2.2.2.2.2.2.2.2.2.2.2.2.2.2.2.2.2.1
theorem NwX11a.l25 {lay l : zLay} {C c : zMem} {o : Int} (h : NwX11a lay l C c o) : ∀ p, p = o + 25 → l p = (100, 25) := h.2.2.2.2.2.2.2.2.2.2.2.2.2.2.2.2.2.2.2.2.2.2.2.2.2.2.2.1
theorem NwX11a.l26 {lay l : zLay} {C c : zMem} {o : Int} (h : NwX11a lay l C c o) : ∀ p, p = o + 26 → l p = (100, 5) := h.2.2.2.2.2.2.2.2.2.2.2.2.2.2.2.2.2.2.2.2.2.2.2.2.2.2.2.2.1
theorem NwX11a.l27 {lay l : zLay} {C c : zMem} {o : Int} (h : NwX11a lay l C c o) : ∀ p, p = o + 27 → l p = (100, 5) := h.2.2.2.2.2.2.2.2.2.2.2.2.2.2.2.2.2.2.2.2.2.2.2.2.2.2.2.2.2.1
theorem NwX11a.l28 {lay l : zLay} {C c : zMem} {o : Int} (h : NwX11a lay l C c o) : ∀ p, p = o + 28 → l p = (7, 7) := h.2.2.2.2.2.2.2.2.2.2.2.2.2.2.2.2.2.2.2.2.2.2.2.2.2.2.2.2.2.2.1
theorem NwX11a.l29 {lay l : zLay} {C c : zMem} {o : Int} (h : NwX11a lay l C c o) : ∀ p, p = o + 29 → l p = (100, 8) := h.2.2.2.2.2.2.2.2.2.2.2.2.2.2.2.2.2.2.2.2.2.2.2.2.2.2.2.2.2.2.2.1
theorem NwX11a.l30 {lay l : zLay} {C c : zMem} {o : Int} (h : NwX11a lay l C c o) : ∀ p, p = o + 30 → l p = (100, 8) := h.2.2.2.2.2.2.2.2.2.2.2.2.2.2.2.2.2.2.2.2.2.2.2.2.2.2.2.2.2.2.2.2.1
theorem NwX11a.l31 {lay l : zLay} {C c : zMem} {o : Int} (h : NwX11a lay l C c o) : ∀ p, p = o + 31 → l p = (100, 8) := h.2.2.2.2.2.2.2.2.2.2.2.2.2.2.2.2.2.2.2.2.2.2.2.2.2.2.2.2.2.2.2.2.2.1
theorem NwX11a.l32 {lay l : zLay} {C c : zMem} {o : Int} (h : NwX11a lay l C c o) : ∀ p, p = o + 32 → l p = (100, 8) := h.2.2.2.2.2.2.2.2.2.2.2.2.2.2.2.2.2.2.2.2.2.2.2.2.2.2.2.2.2.2.2.2.2.2.1
theorem NwX11a.l33 {lay l : zLay} {C c : zMem} {o : Int} (h : NwX11a lay l C c o) : ∀ p, p = o + 33 → l p = (100, 8) := h.2.2.2.2.2.2.2.2.2.2.2.2.2.2.2.2.2.2.2.2.2.2.2.2.2.2.2.2.2.2.2.2.2.2.2.1
theorem NwX11a.l34 {lay l : zLay} {C c : zMem} {o : Int} (h : NwX11a lay l C c o) : ∀ p, p = o + 34 → l p = (100, 12) := h.2.2.2.2.2.2.2.2.2.2.2.2.2.2.2.2.2.2.2.2.2.2.2.2.2.2.2.2.2.2.2.2.2.2.2.2.1
theorem NwX11a.l35 {lay l : zLay} {C c : zMem} {o : Int} (h : NwX11a lay l C c o) : ∀ p, p = o + 35 → l p = (6, 2) := h.2.2.2.2.2.2.2.2.2.2.2.2.2.2.2.2.2.2.2.2.2.2.2.2.2.2.2.2.2.2.2.2.2.2.2.2.2.1
theorem NwX11a.l36 {lay l : zLay} {C c : zMem} {o : Int} (h : NwX11a lay l C c o) : ∀ p, p = o + 36 → l p = (100, 300) := h.2.2.2.2.2.2.2.2.2.2.2.2.2.2.2.2.2.2.2.2.2.2.2.2.2.2.2.2.2.2.2.2.2.2.2.2.2.2.1
theorem NwX11a.l37 {lay l : zLay} {C c : zMem} {o : Int} (h : NwX11a lay l C c o) : ∀ p, p = o + 37 → l p = (100, 10) := h.2.2.2.2.2.2.2.2.2.2.2.2.2.2.2.2.2.2.2.2.2.2.2.2.2.2.2.2.2.2.2.2.2.2.2.2.2.2.2.1
theorem NwX11a.l38 {lay l : zLay} {C c : zMem} {o : Int} (h : NwX11a lay l C c o) : ∀ p, p = o + 38 → l p = (2, 15) := h.2.2.2.2.2.2.2.2.2.2.2.2.2.2.2.2.2.2.2.2.2.2.2.2.2.2.2.2.2.2.2.2.2.2.2.2.2.2.2.2.1
theorem NwX11a.l39 {lay l : zLay} {C c : zMem} {o : Int} (h : NwX11a lay l C c o) : ∀ p, p = o + 39 → l p = (100, 7) := h.2.2.2.2.2.2.2.2.2.2.2.2.2.2.2.2.2.2.2.2.2.2.2.2.2.2.2.2.2.2.2.2.2.2.2.2.2.2.2.2.2.1
theorem NwX11a.l40 {lay l : zLay} {C c : zMem} {o : Int} (h : NwX11a lay l C c o) : ∀ p, p = o + 40 → l p = (100, 7) := h.2.2.2.2.2.2.2.2.2.2.2.2.2.2.2.2.2.2.2.2.2.2.2.2.2.2.2.2.2.2.2.2.2.2.2.2.2.2.2.2.2.2.1
theorem NwX11a.l41 {lay l : zLay} {C c : zMem} {o : Int} (h : NwX11a lay l C c o) : ∀ p, p = o + 41 → l p = (100, 8) := h.2.2.2.2.2.2.2.2.2.2.2.2.2.2.2.2.2.2.2.2.2.2.2.2.2.2.2.2.2.2.2.2.2.2.2.2.2.2.2.2.2.2.2.1
theorem NwX11a.l42 {lay l : zLay} {C c : zMem} {o : Int} (h : NwX11a lay l C c o) : ∀ p, p = o + 42 → l p = (10, 7) := h.2.2.2.2.2.2.2.2.2.2.2.2.2.2.2.2.2.2.2.2.2.2.2.2.2.2.2.2.2.2.2.2.2.2.2.2.2.2.2.2.2.2.2.2.1
theorem NwX11a.l43 {lay l : zLay} {C c : zMem} {o : Int} (h : NwX11a lay l C c o) : ∀ p, p = o + 43 → l p = (100, 25) := h.2.2.2.2.2.2.2.2.2.2.2.2.2.2.2.2.2.2.2.2.2.2.2.2.2.2.2.2.2.2.2.2.2.2.2.2.2.2.2.2.2.2.2.2.2.1
theorem NwX11a.l44 {lay l : zLay} {C c : zMem} {o : Int} (h : NwX11a lay l C c o) : ∀ p, p = o + 44 → l p = (100, 5) := h.2.2.2.2.2.2.2.2.2.2.2.2.2.2.2.2.2.2.2.2.2.2.2.2.2.2.2.2.2.2.2.2.2.2.2.2.2.2.2.2.2.2.2.2.2.2.1
theorem NwX11a.l45 {lay l : zLay} {C c : zMem} {o : Int} (h : NwX11a lay l C c o) : ∀ p, p = o + 45 → l p = (100, 5) := h.2.2.2.2.2.2.2.2.2.2.2.2.2.2.2.2.2.2.2.2.2.2.2.2.2.2.2.2.2.2.2.2.2.2.2.2.2.2.2.2.2.2.2.2.2.2.2.1
theorem NwX11a.l46 {lay l : zLay} {C c : zMem} {o : Int} (h : NwX11a lay l C c o) : ∀ p, p = o + 46 → l p = (7, 7) := h.2.2.2.2.2.2.2.2.2.2.2.2.2.2.2.2.2.2.2.2.2.2.2.2.2.2.2.2.2.2.2.2.2.2.2.2.2.2.2.2.2.2.2.2.2.2.2.2.1
theorem NwX11a.l47 {lay l : zLay} {C c : zMem} {o : Int} (h : NwX11a lay l C c o) : ∀ p, p = o + 47 → l p = (100, 8) := h.2.2.2.2.2.2.2.2.2.2.2.2.2.2.2.2.2.2.2.2.2.2.2.2.2.2.2.2.2.2.2.2.2.2.2.2.2.2.2.2.2.2.2.2.2.2.2.2.2.1
theorem NwX11a.l48 {lay l : zLay} {C c : zMem} {o : Int} (h : NwX11a lay l C c o) : ∀ p, p = o + 48 → l p = (100, 8) := h.2.2.2.2.2.2.2.2.2.2.2.2.2.2.2.2.2.2.2.2.2.2.2.2.2.2.2.2.2.2.2.2.2.2.2.2.2.2.2.2.2.2.2.2.2.2.2.2.2.2.1
theorem NwX11a.l49 {lay l : zLay} {C c : zMem} {o : Int} (h : NwX11a lay l C c o) : ∀ p, p = o + 49 → l p = (100, 8) := h.2.2.2.2.2.2.2.2.2.2.2.2.2.2.2.2.2.2.2.2.2.2.2.2.2.2.2.2.2.2.2.2.2.2.2.2.2.2.2.2.2.2.2.2.2.2.2.2.2.2.2.1
theorem NwX11a.l50 {lay l : zLay} {C c : zMem} {o : Int} (h : NwX11a lay l C c o) : ∀ p, p = o + 50 → l p = (100, 8) := h.2.2.2.2.2.2.2.2.2.2.2.2.2.2.2.2.2.2.2.2.2.2.2.2.2.2.2.2.2.2.2.2.2.2.2.2.2.2.2.2.2.2.2.2.2.2.2.2.2.2.2.2.1
theorem NwX11a.l51 {lay l : zLay} {C c : zMem} {o : Int} (h : NwX11a lay l C c o) : ∀ p, p = o + 51 → l p = (100, 8) := h.2.2.2.2.2.2.2.2.2.2.2.2.2.2.2.2.2.2.2.2.2.2.2.2.2.2.2.2.2.2.2.2.2.2.2.2.2.2.2.2.2.2.2.2.2.2.2.2.2.2.2.2.2.1
theorem NwX11a.l52 {lay l : zLay} {C c : zMem} {o : Int} (h : NwX11a lay l C c o) : ∀ p, p = o + 52 → l p = (100, 12) := h.2.2.2.2.2.2.2.2.2.2.2.2.2.2.2.2.2.2.2.2.2.2.2.2.2.2.2.2.2.2.2.2.2.2.2.2.2.2.2.2.2.2.2.2.2.2.2.2.2.2.2.2.2.2.1
theorem NwX11a.l53 {lay l : zLay} {C c : zMem} {o : Int} (h : NwX11a lay l C c o) : ∀ p, p = o + 53 → l p = (6, 2) := h.2.2.2.2.2.2.2.2.2.2.2.2.2.2.2.2.2.2.2.2.2.2.2.2.2.2.2.2.2.2.2.2.2.2.2.2.2.2.2.2.2.2.2.2.2.2.2.2.2.2.2.2.2.2.2.1
theorem NwX11a.l54 {lay l : zLay} {C c : zMem} {o : Int} (h : NwX11a lay l C c o) : ∀ p, p = o + 54 → l p = (100, 300) := h.2.2.2.2.2.2.2.2.2.2.2.2.2.2.2.2.2.2.2.2.2.2.2.2.2.2.2.2.2.2.2.2.2.2.2.2.2.2.2.2.2.2.2.2.2.2.2.2.2.2.2.2.2.2.2.2.1
theorem NwX11a.l55 {lay l : zLay} {C c : zMem} {o : Int} (h : NwX11a lay l C c o) : ∀ p, p = o + 55 → l p = (100, 10) := h.2.2.2.2.2.2.2.2.2.2.2.2.2.2.2.2.2.2.2.2.2.2.2.2.2.2.2.2.2.2.2.2.2.2.2.2.2.2.2.2.2.2.2.2.2.2.2.2.2.2.2.2.2.2.2.2.2.1
theorem NwX11a.l56 {lay l : zLay} {C c : zMem} {o : Int} (h : NwX11a lay l C c o) : ∀ p, p = o + 56 → l p = (102, 12) := h.2.2.2.2.2.2.2.2.2.2.2.2.2.2.2.2.2.2.2.2.2.2.2.2.2.2.2.2.2.2.2.2.2.2.2.2.2.2.2.2.2.2.2.2.2.2.2.2.2.2.2.2.2.2.2.2.2.2.1
theorem NwX11a.r0_0 {lay l : zLay} {C c : zMem} {o : Int} (h : NwX11a lay l C c o) : ∀ p, p = o + 0 → c p 0 = o + 1 := h.2.2.2.2.2.2.2.2.2.2.2.2.2.2.2.2.2.2.2.2.2.2.2.2.2.2.2.2.2.2.2.2.2.2.2.2.2.2.2.2.2.2.2.2.2.2.2.2.2.2.2.2.2.2.2.2.2.2.2.1
theorem NwX11a.r2_2 {lay l : zLay} {C c : zMem} {o : Int} (h : NwX11a lay l C c o) : ∀ p, p = o + 2 → c p 2 = o + 3 := h.2.2.2.2.2.2.2.2.2.2.2.2.2.2.2.2.2.2.2.2.2.2.2.2.2.2.2.2.2.2.2.2.2.2.2.2.2.2.2.2.2.2.2.2.2.2.2.2.2.2.2.2.2.2.2.2.2.2.2.2.1
theorem NwX11a.r2_3 {lay l : zLay} {C c : zMem} {o : Int} (h : NwX11a lay l C c o) : ∀ p, p = o + 2 → c p 3 = o + 4 := h.2.2.2.2.2.2.2.2.2.2.2.2.2.2.2.2.2.2.2.2.2.2.2.2.2.2.2.2.2.2.2.2.2.2.2.2.2.2.2.2.2.2.2.2.2.2.2.2.2.2.2.2.2.2.2.2.2.2.2.2.2.1
theorem NwX11a.r2_6 {lay l : zLay} {C c : zMem} {o : Int} (h : NwX11a lay l C c o) : ∀ p, p = o + 2 → c p 6 = o + 5 := h.2.2.2.2.2.2.2.2.2.2.2.2.2.2.2.2.2.2.2.2.2.2.2.2.2.2.2.2.2.2.2.2.2.2.2.2.2.2.2.2.2.2.2.2.2.2.2.2.2.2.2.2.2.2.2.2.2.2.2.2.2.2.1
theorem NwX11a.r6_4 {lay l : zLay} {C c : zMem} {o : Int} (h : NwX11a lay l C c o) : ∀ p, p = o + 6 → c p 4 = o + 7 := h.2.2.2.2.2.2.2.2.2.2.2.2.2.2.2.2.2.2.2.2.2.2.2.2.2.2.2.2.2.2.2.2.2.2.2.2.2.2.2.2.2.2.2.2.2.2.2.2.2.2.2.2.2.2.2.2.2.2.2.2.2.2.2.1
theorem NwX11a.r6_5 {lay l : zLay} {C c : zMem} {o : Int} (h : NwX11a lay l C c o) : ∀ p, p = o + 6 → c p 5 = o + 8 := h.2.2.2.2.2.2.2.2.2.2.2.2.2.2.2.2.2.2.2.2.2.2.2.2.2.2.2.2.2.2.2.2.2.2.2.2.2.2.2.2.2.2.2.2.2.2.2.2.2.2.2.2.2.2.2.2.2.2.2.2.2.2.2.2.1
theorem NwX11a.r6_6 {lay l : zLay} {C c : zMem} {o : Int} (h : NwX11a lay l C c o) : ∀ p, p = o + 6 → c p 6 = o + 9 := h.2.2.2.2.2.2.2.2.2.2.2.2.2.2.2.2.2.2.2.2.2.2.2.2.2.2.2.2.2.2.2.2.2.2.2.2.2.2.2.2.2.2.2.2.2.2.2.2.2.2.2.2.2.2.2.2.2.2.2.2.2.2.2.2.2.1
theorem NwX11a.r2_11 {lay l : zLay} {C c : zMem} {o : Int} (h : NwX11a lay l C c o) : ∀ p, p = o + 2 → c p 11 = o + 6 := h.2.2.2.2.2.2.2.2.2.2.2.2.2.2.2.2.2.2.2.2.2.2.2.2.2.2.2.2.2.2.2.2.2.2.2.2.2.2.2.2.2.2.2.2.2.2.2.2.2.2.2.2.2.2.2.2.2.2.2.2.2.2.2.2.2.2.1
theorem NwX11a.r10_1 {lay l : zLay} {C c : zMem} {o : Int} (h : NwX11a lay l C c o) : ∀ p, p = o + 10 → c p 1 = o + 11 := h.2.2.2.2.2.2.2.2.2.2.2.2.2.2.2.2.2.2.2.2.2.2.2.2.2.2.2.2.2.2.2.2.2.2.2.2.2.2.2.2.2.2.2.2.2.2.2.2.2.2.2.2.2.2.2.2.2.2.2.2.2.2.2.2.2.2.2.1
theorem NwX11a.r10_2 {lay l : zLay} {C c : zMem} {o : Int} (h : NwX11a lay l C c o) : ∀ p, p = o + 10 → c p 2 = o + 12 := h.2.2.2.2.2.2.2.2.2.2.2.2.2.2.2.2.2.2.2.2.2.2.2.2.2.2.2.2.2.2.2.2.2.2.2.2.2.2.2.2.2.2.2.2.2.2.2.2.2.2.2.2.2.2.2.2.2.2.2.2.2.2.2.2.2.2.2.2.1
theorem NwX11a.r10_3 {lay l : zLay} {C c : zMem} {o : Int} (h : NwX11a lay l C c o) : ∀ p, p = o + 10 → c p 3 = o + 13 := h.2.2.2.2.2.2.2.2.2.2.2.2.2.2.2.2.2.2.2.2.2.2.2.2.2.2.2.2.2.2.2.2.2.2.2.2.2.2.2.2.2.2.2.2.2.2.2.2.2.2.2.2.2.2.2.2.2.2.2.2.2.2.2.2.2.2.2.2.2.1
theorem NwX11a.r10_4 {lay l : zLay} {C c : zMem} {o : Int} (h : NwX11a lay l C c o) : ∀ p, p = o + 10 → c p 4 = o + 14 := h.2.2.2.2.2.2.2.2.2.2.2.2.2.2.2.2.2.2.2.2.2.2.2.2.2.2.2.2.2.2.2.2.2.2.2.2.2.2.2.2.2.2.2.2.2.2.2.2.2.2.2.2.2.2.2.2.2.2.2.2.2.2.2.2.2.2.2.2.2.2.1
theorem NwX11a.r10_5 {lay l : zLay} {C c : zMem} {o : Int} (h : NwX11a lay l C c o) : ∀ p, p = o + 10 → c p 5 = o + 15 := h.2.2.2.2.2.2.2.2.2.2.2.2.2.2.2.2.2.2.2.2.2.2.2.2.2.2.2.2.2.2.2.2.2.2.2.2.2.2.2.2.2.2.2.2.2.2.2.2.2.2.2.2.2.2.2.2.2.2.2.2.2.2.2.2.2.2.2.2.2.2.2.1
theorem NwX11a.r10_6 {lay l : zLay} {C c : zMem} {o : Int} (h : NwX11a lay l C c o) : ∀ p, p = o + 10 → c p 6 = o + 16 := h.2.2.2.2.2.2.2.2.2.2.2.2.2.2.2.2.2.2.2.2.2.2.2.2.2.2.2.2.2.2.2.2.2.2.2.2.2.2.2.2.2.2.2.2.2.2.2.2.2.2.2.2.2.2.2.2.2.2.2.2.2.2.2.2.2.2.2.2.2.2.2.2.1
theorem NwX11a.r2_12 {lay l : zLay} {C c : zMem} {o : Int} (h : NwX11a lay l C c o) : ∀ p, p = o + 2 → c p 12 = o + 10 := h.2.2.2.2.2.2.2.2.2.2.2.2.2.2.2.2.2.2.2.2.2.2.2.2.2.2.2.2.2.2.2.2.2.2.2.2.2.2.2.2.2.2.2.2.2.2.2.2.2.2.2.2.2.2.2.2.2.2.2.2.2.2.2.2.2.2.2.2.2.2.2.2.2.1
theorem NwX11a.r17_1 {lay l : zLay} {C c : zMem} {o : Int} (h : NwX11a lay l C c o) : ∀ p, p = o + 17 → c p 1 = o + 18 := h.2.2.2.2.2.2.2.2.2.2.2.2.2.2.2.2.2.2.2.2.2.2.2.2.2.2.2.2.2.2.2.2.2.2.2.2.2.2.2.2.2.2.2.2.2.2.2.2.2.2.2.2.2.2.2.2.2.2.2.2.2.2.2.2.2.2.2.2.2.2.2.2.2.2.1
theorem NwX11a.r2_13 {lay l : zLay} {C c : zMem} {o : Int} (h : NwX11a lay l C c o) : ∀ p, p = o + 2 → c p 13 = o + 17 := h.2.2.2.2.2.2.2.2.2.2.2.2.2.2.2.2.2.2.2.2.2.2.2.2.2.2.2.2.2.2.2.2.2.2.2.2.2.2.2.2.2.2.2.2.2.2.2.2.2.2.2.2.2.2.2.2.2.2.2.2.2.2.2.2.2.2.2.2.2.2.2.2.2.2.2.1
theorem NwX11a.r2_14 {lay l : zLay} {C c : zMem} {o : Int} (h : NwX11a lay l C c o) : ∀ p, p = o + 2 → c p 14 = o + 19 := h.2.2.2.2.2.2.2.2.2.2.2.2.2.2.2.2.2.2.2.2.2.2.2.2.2.2.2.2.2.2.2.2.2.2.2.2.2.2.2.2.2.2.2.2.2.2.2.2.2.2.2.2.2.2.2.2.2.2.2.2.2.2.2.2.2.2.2.2.2.2.2.2.2.2.2.2.1
theorem NwX11a.r0_3 {lay l : zLay} {C c : zMem} {o : Int} (h : NwX11a lay l C c o) : ∀ p, p = o + 0 → c p 3 = o + 2 := h.2.2.2.2.2.2.2.2.2.2.2.2.2.2.2.2.2.2.2.2.2.2.2.2.2.2.2.2.2.2.2.2.2.2.2.2.2.2.2.2.2.2.2.2.2.2.2.2.2.2.2.2.2.2.2.2.2.2.2.2.2.2.2.2.2.2.2.2.2.2.2.2.2.2.2.2.2.1
theorem NwX11a.r20_2 {lay l : zLay} {C c : zMem} {o : Int} (h : NwX11a lay l C c o) : ∀ p, p = o + 20 → c p 2 = o + 21 := h.2.2.2.2.2.2.2.2.2.2.2.2.2.2.2.2.2.2.2.2.2.2.2.2.2.2.2.2.2.2.2.2.2.2.2.2.2.2.2.2.2.2.2.2.2.2.2.2.2.2.2.2.2.2.2.2.2.2.2.2.2.2.2.2.2.2.2.2.2.2.2.2.2.2.2.2.2.2.1
theorem NwX11a.r20_3 {lay l : zLay} {C c : zMem} {o : Int} (h : NwX11a lay l C c o) : ∀ p, p = o + 20 → c p 3 = o + 22 := h.2.2.2.2.2.2.2.2.2.2.2.2.2.2.2.2.2.2.2.2.2.2.2.2.2.2.2.2.2.2.2.2.2.2.2.2.2.2.2.2.2.2.2.2.2.2.2.2.2.2.2.2.2.2.2.2.2.2.2.2.2.2.2.2.2.2.2.2.2.2.2.2.2.2.2.2.2.2.2.1
theorem NwX11a.r20_6 {lay l : zLay} {C c : zMem} {o : Int} (h : NwX11a lay l C c o) : ∀ p, p = o + 20 → c p 6 = o + 23 := h.2.2.2.2.2.2.2.2.2.2.2.2.2.2.2.2.2.2.2.2.2.2.2.2.2.2.2.2.2.2.2.2.2.2.2.2.2.2.2.2.2.2.2.2.2.2.2.2.2.2.2.2.2.2.2.2.2.2.2.2.2.2.2.2.2.2.2.2.2.2.2.2.2.2.2.2.2.2.2.2.1
theorem NwX11a.r24_4 {lay l : zLay} {C c : zMem} {o : Int} (h : NwX11a lay l C c o) : ∀ p, p = o + 24 → c p 4 = o + 25 := h.2.2.2.2.2.2.2.2.2.2.2.2.2.2.2.2.2.2.2.2.2.2.2.2.2.2.2.2.2.2.2.2.2.2.2.2.2.2.2.2.2.2.2.2.2.2.2.2.2.2.2.2.2.2.2.2.2.2.2.2.2.2.2.2.2.2.2.2.2.2.2.2.2.2.2.2.2.2.2.2.2.1
theorem NwX11a.r24_5 {lay l : zLay} {C c : zMem} {o : Int} (h : NwX11a lay l C c o) : ∀ p, p = o + 24 → c p 5 = o + 26 := h.2.2.2.2.2.2.2.2.2.2.2.2.2.2.2.2.2.2.2.2.2.2.2.2.2.2.2.2.2.2.2.2.2.2.2.2.2.2.2.2.2.2.2.2.2.2.2.2.2.2.2.2.2.2.2.2.2.2.2.2.2.2.2.2.2.2.2.2.2.2.2.2.2.2.2.2.2.2.2.2.2.2.1
theorem NwX11a.r24_6 {lay l : zLay} {C c : zMem} {o : Int} (h : NwX11a lay l C c o) : ∀ p, p = o + 24 → c p 6 = o + 27 := h.2.2.2.2.2.2.2.2.2.2.2.2.2.2.2.2.2.2.2.2.2.2.2.2.2.2.2.2.2.2.2.2.2.2.2.2.2.2.2.2.2.2.2.2.2.2.2.2.2.2.2.2.2.2.2.2.2.2.2.2.2.2.2.2.2.2.2.2.2.2.2.2.2.2.2.2.2.2.2.2.2.2.2.1
theorem NwX11a.r20_11 {lay l : zLay} {C c : zMem} {o : Int} (h : NwX11a lay l C c o) : ∀ p, p = o + 20 → c p 11 = o + 24 := h.2.2.2.2.2.2.2.2.2.2.2.2.2.2.2.2.2.2.2.2.2.2.2.2.2.2.2.2.2.2.2.2.2.2.2.2.2.2.2.2.2.2.2.2.2.2.2.2.2.2.2.2.2.2.2.2.2.2.2.2.2.2.2.2.2.2.2.2.2.2.2.2.2.2.2.2.2.2.2.2.2.2.2.2.1
theorem NwX11a.r28_1 {lay l : zLay} {C c : zMem} {o : Int} (h : NwX11a lay l C c o) : ∀ p, p = o + 28 → c p 1 = o + 29 := h.2.2.2.2.2.2.2.2.2.2.2.2.2.2.2.2.2.2.2.2.2.2.2.2.2.2.2.2.2.2.2.2.2.2.2.2.2.2.2.2.2.2.2.2.2.2.2.2.2.2.2.2.2.2.2.2.2.2.2.2.2.2.2.2.2.2.2.2.2.2.2.2.2.2.2.2.2.2.2.2.2.2.2.2.2.1
theorem NwX11a.r28_2 {lay l : zLay} {C c : zMem} {o : Int} (h : NwX11a lay l C c o) : ∀ p, p = o + 28 → c p 2 = o + 30 := h.2.2.2.2.2.2.2.2.2.2.2.2.2.2.2.2.2.2.2.2.2.2.2.2.2.2.2.2.2.2.2.2.2.2.2.2.2.2.2.2.2.2.2.2.2.2.2.2.2.2.2.2.2.2.2.2.2.2.2.2.2.2.2.2.2.2.2.2.2.2.2.2.2.2.2.2.2.2.2.2.2.2.2.2.2.2.1
theorem NwX11a.r28_3 {lay l : zLay} {C c : zMem} {o : Int} (h : NwX11a lay l C c o) : ∀ p, p = o + 28 → c p 3 = o + 31 := h.2.2.2.2.2.2.2.2.2.2.2.2.2.2.2.2.2.2.2.2.2.2.2.2.2.2.2.2.2.2.2.2.2.2.2.2.2.2.2.2.2.2.2.2.2.2.2.2.2.2.2.2.2.2.2.2.2.2.2.2.2.2.2.2.2.2.2.2.2.2.2.2.2.2.2.2.2.2.2.2.2.2.2.2.2.2.2.1
theorem NwX11a.r28_4 {lay l : zLay} {C c : zMem} {o : Int} (h : NwX11a lay l C c o) : ∀ p, p = o + 28 → c p 4 = o + 32 := h.2.2.2.2.2.2.2.2.2.2.2.2.2.2.2.2.2.2.2.2.2.2.2.2.2.2.2.2.2.2.2.2.2.2.2.2.2.2.2.2.2.2.2.2.2.2.2.2.2.2.2.2.2.2.2.2.2.2.2.2.2.2.2.2.2.2.2.2.2.2.2.2.2.2.2.2.2.2.2.2.2.2.2.2.2.2.2.2.1
theorem NwX11a.r28_5 {lay l : zLay} {C c : zMem} {o : Int} (h : NwX11a lay l C c o) : ∀ p, p = o + 28 → c p 5 = o + 33 := h.2.2.2.2.2.2.2.2.2.2.2.2.2.2.2.2.2.2.2.2.2.2.2.2.2.2.2.2.2.2.2.2.2.2.2.2.2.2.2.2.2.2.2.2.2.2.2.2.2.2.2.2.2.2.2.2.2.2.2.2.2.2.2.2.2.2.2.2.2.2.2.2.2.2.2.2.2.2.2.2.2.2.2.2.2.2.2.2.2.1
theorem NwX11a.r28_6 {lay l : zLay} {C c : zMem} {o : Int} (h : NwX11a lay l C c o) : ∀ p, p = o + 28 → c p 6 = o + 34 := h.2.2.2.2.2.2.2.2.2.2.2.2.2.2.2.2.2.2.2.2.2.2.2.2.2.2.2.2.2.2.2.2.2.2.2.2.2.2.2.2.2.2.2.2.2.2.2.2.2.2.2.2.2.2.2.2.2.2.2.2.2.2.2.2.2.2.2.2.2.2.2.2.2.2.2.2.2.2.2.2.2.2.2.2.2.2.2.2.2.2.1
theorem NwX11a.r20_12 {lay l : zLay} {C c : zMem} {o : Int} (h : NwX11a lay l C c o) : ∀ p, p = o + 20 → c p 12 = o + 28 := h.2.2.2.2.2.2.2.2.2.2.2.2.2.2.2.2.2.2.2.2.2.2.2.2.2.2.2.2.2.2.2.2.2.2.2.2.2.2.2.2.2.2.2.2.2.2.2.2.2.2.2.2.2.2.2.2.2.2.2.2.2.2.2.2.2.2.2.2.2.2.2.2.2.2.2.2.2.2.2.2.2.2.2.2.2.2.2.2.2.2.2.1
theorem NwX11a.r35_1 {lay l : zLay} {C c : zMem} {o : Int} (h : NwX11a lay l C c o) : ∀ p, p = o + 35 → c p 1 = o + 36 := h.2.2.2.2.2.2.2.2.2.2.2.2.2.2.2.2.2.2.2.2.2.2.2.2.2.2.2.2.2.2.2.2.2.2.2.2.2.2.2.2.2.2.2.2.2.2.2.2.2.2.2.2.2.2.2.2.2.2.2.2.2.2.2.2.2.2.2.2.2.2.2.2.2.2.2.2.2.2.2.2.2.2.2.2.2.2.2.2.2.2.2.2.1
theorem NwX11a.r20_13 {lay l : zLay} {C c : zMem} {o : Int} (h : NwX11a lay l C c o) : ∀ p, p = o + 20 → c p 13 = o + 35 := h.2.2.2.2.2.2.2.2.2.2.2.2.2.2.2.2.2.2.2.2.2.2.2.2.2.2.2.2.2.2.2.2.2.2.2.2.2.2.2.2.2.2.2.2.2.2.2.2.2.2.2.2.2.2.2.2.2.2.2.2.2.2.2.2.2.2.2.2.2.2.2.2.2.2.2.2.2.2.2.2.2.2.2.2.2.2.2.2.2.2.2.2.2.1
theorem NwX11a.r20_14 {lay l : zLay} {C c : zMem} {o : Int} (h : NwX11a lay l C c o) : ∀ p, p = o + 20 → c p 14 = o + 37 := h.2.2.2.2.2.2.2.2.2.2.2.2.2.2.2.2.2.2.2.2.2.2.2.2.2.2.2.2.2.2.2.2.2.2.2.2.2.2.2.2.2.2.2.2.2.2.2.2.2.2.2.2.2.2.2.2.2.2.2.2.2.2.2.2.2.2.2.2.2.2.2.2.2.2.2.2.2.2.2.2.2.2.2.2.2.2.2.2.2.2.2.2.2.2.1
theorem NwX11a.r0_4 {lay l : zLay} {C c : zMem} {o : Int} (h : NwX11a lay l C c o) : ∀ p, p = o + 0 → c p 4 = o + 20 := h.2.2.2.2.2.2.2.2.2.2.2.2.2.2.2.2.2.2.2.2.2.2.2.2.2.2.2.2.2.2.2.2.2.2.2.2.2.2.2.2.2.2.2.2.2.2.2.2.2.2.2.2.2.2.2.2.2.2.2.2.2.2.2.2.2.2.2.2.2.2.2.2.2.2.2.2.2.2.2.2.2.2.2.2.2.2.2.2.2.2.2.2.2.2.2.1
theorem NwX11a.r38_2 {lay l : zLay} {C c : zMem} {o : Int} (h : NwX11a lay l C c o) : ∀ p, p = o + 38 → c p 2 = o + 39 := h.2.2.2.2.2.2.2.2.2.2.2.2.2.2.2.2.2.2.2.2.2.2.2.2.2.2.2.2.2.2.2.2.2.2.2.2.2.2.2.2.2.2.2.2.2.2.2.2.2.2.2.2.2.2.2.2.2.2.2.2.2.2.2.2.2.2.2.2.2.2.2.2.2.2.2.2.2.2.2.2.2.2.2.2.2.2.2.2.2.2.2.2.2.2.2.2.1
theorem NwX11a.r38_3 {lay l : zLay} {C c : zMem} {o : Int} (h : NwX11a lay l C c o) : ∀ p, p = o + 38 → c p 3 = o + 40 := h.2.2.2.2.2.2.2.2.2.2.2.2.2.2.2.2.2.2.2.2.2.2.2.2.2.2.2.2.2.2.2.2.2.2.2.2.2.2.2.2.2.2.2.2.2.2.2.2.2.2.2.2.2.2.2.2.2.2.2.2.2.2.2.2.2.2.2.2.2.2.2.2.2.2.2.2.2.2.2.2.2.2.2.2.2.2.2.2.2.2.2.2.2.2.2.2.2.1
theorem NwX11a.r38_6 {lay l : zLay} {C c : zMem} {o : Int} (h : NwX11a lay l C c o) : ∀ p, p = o + 38 → c p 6 = o + 41 := h.2.2.2.2.2.2.2.2.2.2.2.2.2.2.2.2.2.2.2.2.2.2.2.2.2.2.2.2.2.2.2.2.2.2.2.2.2.2.2.2.2.2.2.2.2.2.2.2.2.2.2.2.2.2.2.2.2.2.2.2.2.2.2.2.2.2.2.2.2.2.2.2.2.2.2.2.2.2.2.2.2.2.2.2.2.2.2.2.2.2.2.2.2.2.2.2.2.2.1
theorem NwX11a.r42_4 {lay l : zLay} {C c : zMem} {o : Int} (h : NwX11a lay l C c o) : ∀ p, p = o + 42 → c p 4 = o + 43 := h.2.2.2.2.2.2.2.2.2.2.2.2.2.2.2.2.2.2.2.2.2.2.2.2.2.2.2.2.2.2.2.2.2.2.2.2.2.2.2.2.2.2.2.2.2.2.2.2.2.2.2.2.2.2.2.2.2.2.2.2.2.2.2.2.2.2.2.2.2.2.2.2.2.2.2.2.2.2.2.2.2.2.2.2.2.2.2.2.2.2.2.2.2.2.2.2.2.2.2.1
theorem NwX11a.r42_5 {lay l : zLay} {C c : zMem} {o : Int} (h : NwX11a lay l C c o) : ∀ p, p = o + 42 → c p 5 = o + 44 := h.2.2.2.2.2.2.2.2.2.2.2.2.2.2.2.2.2.2.2.2.2.2.2.2.2.2.2.2.2.2.2.2.2.2.2.2.2.2.2.2.2.2.2.2.2.2.2.2.2.2.2.2.2.2.2.2.2.2.2.2.2.2.2.2.2.2.2.2.2.2.2.2.2.2.2.2.2.2.2.2.2.2.2.2.2.2.2.2.2.2.2.2.2.2.2.2.2.2.2.2.1
theorem NwX11a.r42_6 {lay l : zLay} {C c : zMem} {o : Int} (h : NwX11a lay l C c o) : ∀ p, p = o + 42 → c p 6 = o + 45 := h.2.2.2.2.2.2.2.2.2.2.2.2.2.2.2.2.2.2.2.2.2.2.2.2.2.2.2.2.2.2.2.2.2.2.2.2.2.2.2.2.2.2.2.2.2.2.2.2.2.2.2.2.2.2.2.2.2.2.2.2.2.2.2.2.2.2.2.2.2.2.2.2.2.2.2.2.2.2.2.2.2.2.2.2.2.2.2.2.2.2.2.2.2.2.2.2.2.2.2.2.2.1
theorem NwX11a.r38_11 {lay l : zLay} {C c : zMem} {o : Int} (h : NwX11a lay l C c o) : ∀ p, p = o + 38 → c p 11 = o + 42 := h.2.2.2.2.2.2.2.2.2.2.2.2.2.2.2.2.2.2.2.2.2.2.2.2.2.2.2.2.2.2.2.2.2.2.2.2.2.2.2.2.2.2.2.2.2.2.2.2.2.2.2.2.2.2.2.2.2.2.2.2.2.2.2.2.2.2.2.2.2.2.2.2.2.2.2.2.2.2.2.2.2.2.2.2.2.2.2.2.2.2.2.2.2.2.2.2.2.2.2.2.2.2.1
theorem NwX11a.r46_1 {lay l : zLay} {C c : zMem} {o : Int} (h : NwX11a lay l C c o) : ∀ p, p = o + 46 → c p 1 = o + 47 := h.2.2.2.2.2.2.2.2.2.2.2.2.2.2.2.2.2.2.2.2.2.2.2.2.2.2.2.2.2.2.2.2.2.2.2.2.2.2.2.2.2.2.2.2.2.2.2.2.2.2.2.2.2.2.2.2.2.2.2.2.2.2.2.2.2.2.2.2.2.2.2.2.2.2.2.2.2.2.2.2.2.2.2.2.2.2.2.2.2.2.2.2.2.2.2.2.2.2.2.2.2.2.2.1
theorem NwX11a.r46_2 {lay l : zLay} {C c : zMem} {o : Int} (h : NwX11a lay l C c o) : ∀ p, p = o + 46 → c p 2 = o + 48 := h.2.2.2.2.2.2.2.2.2.2.2.2.2.2.2.2.2.2.2.2.2.2.2.2.2.2.2.2.2.2.2.2.2.2.2.2.2.2.2.2.2.2.2.2.2.2.2.2.2.2.2.2.2.2.2.2.2.2.2.2.2.2.2.2.2.2.2.2.2.2.2.2.2.2.2.2.2.2.2.2.2.2.2.2.2.2.2.2.2.2.2.2.2.2.2.2.2.2.2.2.2.2.2.2.1
theorem NwX11a.r46_3 {lay l : zLay} {C c : zMem} {o : Int} (h : NwX11a lay l C c o) : ∀ p, p = o + 46 → c p 3 = o + 49 := h.2.2.2.2.2.2.2.2.2.2.2.2.2.2.2.2.2.2.2.2.2.2.2.2.2.2.2.2.2.2.2.2.2.2.2.2.2.2.2.2.2.2.2.2.2.2.2.2.2.2.2.2.2.2.2.2.2.2.2.2.2.2.2.2.2.2.2.2.2.2.2.2.2.2.2.2.2.2.2.2.2.2.2.2.2.2.2.2.2.2.2.2.2.2.2.2.2.2.2.2.2.2.2.2.2.1
theorem NwX11a.r46_4 {lay l : zLay} {C c : zMem} {o : Int} (h : NwX11a lay l C c o) : ∀ p, p = o + 46 → c p 4 = o + 50 := h.2.2.2.2.2.2.2.2.2.2.2.2.2.2.2.2.2.2.2.2.2.2.2.2.2.2.2.2.2.2.2.2.2.2.2.2.2.2.2.2.2.2.2.2.2.2.2.2.2.2.2.2.2.2.2.2.2.2.2.2.2.2.2.2.2.2.2.2.2.2.2.2.2.2.2.2.2.2.2.2.2.2.2.2.2.2.2.2.2.2.2.2.2.2.2.2.2.2.2.2.2.2.2.2.2.2.1
theorem NwX11a.r46_5 {lay l : zLay} {C c : zMem} {o : Int} (h : NwX11a lay l C c o) : ∀ p, p = o + 46 → c p 5 = o + 51 := h.2.2.2.2.2.2.2.2.2.2.2.2.2.2.2.2.2.2.2.2.2.2.2.2.2.2.2.2.2.2.2.2.2.2.2.2.2.2.2.2.2.2.2.2.2.2.2.2.2.2.2.2.2.2.2.2.2.2.2.2.2.2.2.2.2.2.2.2.2.2.2.2.2.2.2.2.2.2.2.2.2.2.2.2.2.2.2.2.2.2.2.2.2.2.2.2.2.2.2.2.2.2.2.2.2.2.2.1
theorem NwX11a.r46_6 {lay l : zLay} {C c : zMem} {o : Int} (h : NwX11a lay l C c o) : ∀ p, p = o + 46 → c p 6 = o + 52 := h.2.2.2.2.2.2.2.2.2.2.2.2.2.2.2.2.2.2.2.2.2.2.2.2.2.2.2.2.2.2.2.2.2.2.2.2.2.2.2.2.2.2.2.2.2.2.2.2.2.2.2.2.2.2.2.2.2.2.2.2.2.2.2.2.2.2.2.2.2.2.2.2.2.2.2.2.2.2.2.2.2.2.2.2.2.2.2.2.2.2.2.2.2.2.2.2.2.2.2.2.2.2.2.2.2.2.2.2.1
theorem NwX11a.r38_12 {lay l : zLay} {C c : zMem} {o : Int} (h : NwX11a lay l C c o) : ∀ p, p = o + 38 → c p 12 = o + 46 := h.2.2.2.2.2.2.2.2.2.2.2.2.2.2.2.2.2.2.2.2.2.2.2.2.2.2.2.2.2.2.2.2.2.2.2.2.2.2.2.2.2.2.2.2.2.2.2.2.2.2.2.2.2.2.2.2.2.2.2.2.2.2.2.2.2.2.2.2.2.2.2.2.2.2.2.2.2.2.2.2.2.2.2.2.2.2.2.2.2.2.2.2.2.2.2.2.2.2.2.2.2.2.2.2.2.2.2.2.2.1
theorem NwX11a.r53_1 {lay l : zLay} {C c : zMem} {o : Int} (h : NwX11a lay l C c o) : ∀ p, p = o + 53 → c p 1 = o + 54 := h.2.2.2.2.2.2.2.2.2.2.2.2.2.2.2.2.2.2.2.2.2.2.2.2.2.2.2.2.2.2.2.2.2.2.2.2.2.2.2.2.2.2.2.2.2.2.2.2.2.2.2.2.2.2.2.2.2.2.2.2.2.2.2.2.2.2.2.2.2.2.2.2.2.2.2.2.2.2.2.2.2.2.2.2.2.2.2.2.2.2.2.2.2.2.2.2.2.2.2.2.2.2.2.2.2.2.2.2.2.2.1
theorem NwX11a.r38_13 {lay l : zLay} {C c : zMem} {o : Int} (h : NwX11a lay l C c o) : ∀ p, p = o + 38 → c p 13 = o + 53 := h.2.2.2.2.2.2.2.2.2.2.2.2.2.2.2.2.2.2.2.2.2.2.2.2.2.2.2.2.2.2.2.2.2.2.2.2.2.2.2.2.2.2.2.2.2.2.2.2.2.2.2.2.2.2.2.2.2.2.2.2.2.2.2.2.2.2.2.2.2.2.2.2.2.2.2.2.2.2.2.2.2.2.2.2.2.2.2.2.2.2.2.2.2.2.2.2.2.2.2.2.2.2.2.2.2.2.2.2.2.2.2.1
theorem NwX11a.r38_14 {lay l : zLay} {C c : zMem} {o : Int} (h : NwX11a lay l C c o) : ∀ p, p = o + 38 → c p 14 = o + 55 := h.2.2.2.2.2.2.2.2.2.2.2.2.2.2.2.2.2.2.2.2.2.2.2.2.2.2.2.2.2.2.2.2.2.2.2.2.2.2.2.2.2.2.2.2.2.2.2.2.2.2.2.2.2.2.2.2.2.2.2.2.2.2.2.2.2.2.2.2.2.2.2.2.2.2.2.2.2.2.2.2.2.2.2.2.2.2.2.2.2.2.2.2.2.2.2.2.2.2.2.2.2.2.2.2.2.2.2.2.2.2.2.2.1
theorem NwX11a.r0_5 {lay l : zLay} {C c : zMem} {o : Int} (h : NwX11a lay l C c o) : ∀ p, p = o + 0 → c p 5 = o + 38 := h.2.2.2.2.2.2.2.2.2.2.2.2.2.2.2.2.2.2.2.2.2.2.2.2.2.2.2.2.2.2.2.2.2.2.2.2.2.2.2.2.2.2.2.2.2.2.2.2.2.2.2.2.2.2.2.2.2.2.2.2.2.2.2.2.2.2.2.2.2.2.2.2.2.2.2.2.2.2.2.2.2.2.2.2.2.2.2.2.2.2.2.2.2.2.2.2.2.2.2.2.2.2.2.2.2.2.2.2.2.2.2.2.2.1
theorem NwX11a.r0_7 {lay l : zLay} {C c : zMem} {o : Int} (h : NwX11a lay l C c o) : ∀ p, p = o + 0 → c p 7 = o + 56 := h.2.2.2.2.2.2.2.2.2.2.2.2.2.2.2.2.2.2.2.2.2.2.2.2.2.2.2.2.2.2.2.2.2.2.2.2.2.2.2.2.2.2.2.2.2.2.2.2.2.2.2.2.2.2.2.2.2.2.2.2.2.2.2.2.2.2.2.2.2.2.2.2.2.2.2.2.2.2.2.2.2.2.2.2.2.2.2.2.2.2.2.2.2.2.2.2.2.2.2.2.2.2.2.2.2.2.2.2.2.2.2.2.2.2.1
theorem NwX11a.v0_2 {lay l : zLay} {C c : zMem} {o : Int} (h : NwX11a lay l C c o) : ∀ p, p = o + 0 → c p 2 = -1 := h.2.2.2.2.2.2.2.2.2.2.2.2.2.2.2.2.2.2.2.2.2.2.2.2.2.2.2.2.2.2.2.2.2.2.2.2.2.2.2.2.2.2.2.2.2.2.2.2.2.2.2.2.2.2.2.2.2.2.2.2.2.2.2.2.2.2.2.2.2.2.2.2.2.2.2.2.2.2.2.2.2.2.2.2.2.2.2.2.2.2.2.2.2.2.2.2.2.2.2.2.2.2.2.2.2.2.2.2.2.2.2.2.2.2.2.1
theorem NwX11a.v2_0 {lay l : zLay} {C c : zMem} {o : Int} (h : NwX11a lay l C c o) : ∀ p, p = o + 2 → c p 0 = 0 := h.2.2.2.2.2.2.2.2.2.2.2.2.2.2.2.2.2.2.2.2.2.2.2.2.2.2.2.2.2.2.2.2.2.2.2.2.2.2.2.2.2.2.2.2.2.2.2.2.2.2.2.2.2.2.2.2.2.2.2.2.2.2.2.2.2.2.2.2.2.2.2.2.2.2.2.2.2.2.2.2.2.2.2.2.2.2.2.2.2.2.2.2.2.2.2.2.2.2.2.2.2.2.2.2.2.2.2.2.2.2.2.2.2.2.2.2.1
theorem NwX11a.v2_1 {lay l : zLay} {C c : zMem} {o : Int} (h : NwX11a lay l C c o) : ∀ p, p = o + 2 → c p 1 = 0 := h.2.2.2.2.2.2.2.2.2.2.2.2.2.2.2.2.2.2.2.2.2.2.2.2.2.2.2.2.2.2.2.2.2.2.2.2.2.2.2.2.2.2.2.2.2.2.2.2.2.2.2.2.2.2.2.2.2.2.2.2.2.2.2.2.2.2.2.2.2.2.2.2.2.2.2.2.2.2.2.2.2.2.2.2.2.2.2.2.2.2.2.2.2.2.2.2.2.2.2.2.2.2.2.2.2.2.2.2.2.2.2.2.2.2.2.2.2.1
theorem NwX11a.v2_4 {lay l : zLay} {C c : zMem} {o : Int} (h : NwX11a lay l C c o) : ∀ p, p = o + 2 → c p 4 = 0 := h.2.2.2.2.2.2.2.2.2.2.2.2.2.2.2.2.2.2.2.2.2.2.2.2.2.2.2.2.2.2.2.2.2.2.2.2.2.2.2.2.2.2.2.2.2.2.2.2.2.2.2.2.2.2.2.2.2.2.2.2.2.2.2.2.2.2.2.2.2.2.2.2.2.2.2.2.2.2.2.2.2.2.2.2.2.2.2.2.2.2.2.2.2.2.2.2.2.2.2.2.2.2.2.2.2.2.2.2.2.2.2.2.2.2.2.2.2.2.1
theorem NwX11a.v2_5 {lay l : zLay} {C c : zMem} {o : Int} (h : NwX11a lay l C c o) : ∀ p, p = o + 2 → c p 5 = 0 := h.2.2.2.2.2.2.2.2.2.2.2.2.2.2.2.2.2.2.2.2.2.2.2.2.2.2.2.2.2.2.2.2.2.2.2.2.2.2.2.2.2.2.2.2.2.2.2.2.2.2.2.2.2.2.2.2.2.2.2.2.2.2.2.2.2.2.2.2.2.2.2.2.2.2.2.2.2.2.2.2.2.2.2.2.2.2.2.2.2.2.2.2.2.2.2.2.2.2.2.2.2.2.2.2.2.2.2.2.2.2.2.2.2.2.2.2.2.2.2.1
theorem NwX11a.v2_10 {lay l : zLay} {C c : zMem} {o : Int} (h : NwX11a lay l C c o) : ∀ p, p = o + 2 → c p 10 = -1 := h.2.2.2.2.2.2.2.2.2.2.2.2.2.2.2.2.2.2.2.2.2.2.2.2.2.2.2.2.2.2.2.2.2.2.2.2.2.2.2.2.2.2.2.2.2.2.2.2.2.2.2.2.2.2.2.2.2.2.2.2.2.2.2.2.2.2.2.2.2.2.2.2.2.2.2.2.2.2.2.2.2.2.2.2.2.2.2.2.2.2.2.2.2.2.2.2.2.2.2.2.2.2.2.2.2.2.2.2.2.2.2.2.2.2.2.2.2.2.2.2.1
theorem NwX11a.v2_7 {lay l : zLay} {C c : zMem} {o : Int} (h : NwX11a lay l C c o) : ∀ p, p = o + 2 → c p 7 = 1 := h.2.2.2.2.2.2.2.2.2.2.2.2.2.2.2.2.2.2.2.2.2.2.2.2.2.2.2.2.2.2.2.2.2.2.2.2.2.2.2.2.2.2.2.2.2.2.2.2.2.2.2.2.2.2.2.2.2.2.2.2.2.2.2.2.2.2.2.2.2.2.2.2.2.2.2.2.2.2.2.2.2.2.2.2.2.2.2.2.2.2.2.2.2.2.2.2.2.2.2.2.2.2.2.2.2.2.2.2.2.2.2.2.2.2.2.2.2.2.2.2.2.1
theorem NwX11a.v2_8 {lay l : zLay} {C c : zMem} {o : Int} (h : NwX11a lay l C c o) : ∀ p, p = o + 2 → c p 8 = 3 := h.2.2.2.2.2.2.2.2.2.2.2.2.2.2.2.2.2.2.2.2.2.2.2.2.2.2.2.2.2.2.2.2.2.2.2.2.2.2.2.2.2.2.2.2.2.2.2.2.2.2.2.2.2.2.2.2.2.2.2.2.2.2.2.2.2.2.2.2.2.2.2.2.2.2.2.2.2.2.2.2.2.2.2.2.2.2.2.2.2.2.2.2.2.2.2.2.2.2.2.2.2.2.2.2.2.2.2.2.2.2.2.2.2.2.2.2.2.2.2.2.2.2.1
theorem NwX11a.v2_9 {lay l : zLay} {C c : zMem} {o : Int} (h : NwX11a lay l C c o) : ∀ p, p = o + 2 → c p 9 = 3 := h.2.2.2.2.2.2.2.2.2.2.2.2.2.2.2.2.2.2.2.2.2.2.2.2.2.2.2.2.2.2.2.2.2.2.2.2.2.2.2.2.2.2.2.2.2.2.2.2.2.2.2.2.2.2.2.2.2.2.2.2.2.2.2.2.2.2.2.2.2.2.2.2.2.2.2.2.2.2.2.2.2.2.2.2.2.2.2.2.2.2.2.2.2.2.2.2.2.2.2.2.2.2.2.2.2.2.2.2.2.2.2.2.2.2.2.2.2.2.2.2.2.2.2.1
theorem NwX11a.v6_0 {lay l : zLay} {C c : zMem} {o : Int} (h : NwX11a lay l C c o) : ∀ p, p = o + 6 → c p 0 = 1 := h.2.2.2.2.2.2.2.2.2.2.2.2.2.2.2.2.2.2.2.2.2.2.2.2.2.2.2.2.2.2.2.2.2.2.2.2.2.2.2.2.2.2.2.2.2.2.2.2.2.2.2.2.2.2.2.2.2.2.2.2.2.2.2.2.2.2.2.2.2.2.2.2.2.2.2.2.2.2.2.2.2.2.2.2.2.2.2.2.2.2.2.2.2.2.2.2.2.2.2.2.2.2.2.2.2.2.2.2.2.2.2.2.2.2.2.2.2.2.2.2.2.2.2.2.1
theorem NwX11a.v6_1 {lay l : zLay} {C c : zMem} {o : Int} (h : NwX11a lay l C c o) : ∀ p, p = o + 6 → c p 1 = 0 := h.2.2.2.2.2.2.2.2.2.2.2.2.2.2.2.2.2.2.2.2.2.2.2.2.2.2.2.2.2.2.2.2.2.2.2.2.2.2.2.2.2.2.2.2.2.2.2.2.2.2.2.2.2.2.2.2.2.2.2.2.2.2.2.2.2.2.2.2.2.2.2.2.2.2.2.2.2.2.2.2.2.2.2.2.2.2.2.2.2.2.2.2.2.2.2.2.2.2.2.2.2.2.2.2.2.2.2.2.2.2.2.2.2.2.2.2.2.2.2.2.2.2.2.2.2.1
theorem NwX11a.v6_2 {lay l : zLay} {C c : zMem} {o : Int} (h : NwX11a lay l C c o) : ∀ p, p = o + 6 → c p 2 = 0 := h.2.2.2.2.2.2.2.2.2.2.2.2.2.2.2.2.2.2.2.2.2.2.2.2.2.2.2.2.2.2.2.2.2.2.2.2.2.2.2.2.2.2.2.2.2.2.2.2.2.2.2.2.2.2.2.2.2.2.2.2.2.2.2.2.2.2.2.2.2.2.2.2.2.2.2.2.2.2.2.2.2.2.2.2.2.2.2.2.2.2.2.2.2.2.2.2.2.2.2.2.2.2.2.2.2.2.2.2.2.2.2.2.2.2.2.2.2.2.2.2.2.2.2.2.2.2.1
theorem NwX11a.v6_3 {lay l : zLay} {C c : zMem} {o : Int} (h : NwX11a lay l C c o) : ∀ p, p = o + 6 → c p 3 = 1 := h.2.2.2.2.2.2.2.2.2.2.2.2.2.2.2.2.2.2.2.2.2.2.2.2.2.2.2.2.2.2.2.2.2.2.2.2.2.2.2.2.2.2.2.2.2.2.2.2.2.2.2.2.2.2.2.2.2.2.2.2.2.2.2.2.2.2.2.2.2.2.2.2.2.2.2.2.2.2.2.2.2.2.2.2.2.2.2.2.2.2.2.2.2.2.2.2.2.2.2.2.2.2.2.2.2.2.2.2.2.2.2.2.2.2.2.2.2.2.2.2.2.2.2.2.2.2.2.1
theorem NwX11a.v10_0 {lay l : zLay} {C c : zMem} {o : Int} (h : NwX11a lay l C c o) : ∀ p, p = o + 10 → c p 0 = 0 := h.2.2.2.2.2.2.2.2.2.2.2.2.2.2.2.2.2.2.2.2.2.2.2.2.2.2.2.2.2.2.2.2.2.2.2.2.2.2.2.2.2.2.2.2.2.2.2.2.2.2.2.2.2.2.2.2.2.2.2.2.2.2.2.2.2.2.2.2.2.2.2.2.2.2.2.2.2.2.2.2.2.2.2.2.2.2.2.2.2.2.2.2.2.2.2.2.2.2.2.2.2.2.2.2.2.2.2.2.2.2.2.2.2.2.2.2.2.2.2.2.2.2.2.2.2.2.2.2.1
theorem NwX11a.v17_0 {lay l : zLay} {C c : zMem} {o : Int} (h : NwX11a lay l C c o) : ∀ p, p = o + 17 → c p 0 = 0 := h.2.2.2.2.2.2.2.2.2.2.2.2.2.2.2.2.2.2.2.2.2.2.2.2.2.2.2.2.2.2.2.2.2.2.2.2.2.2.2.2.2.2.2.2.2.2.2.2.2.2.2.2.2.2.2.2.2.2.2.2.2.2.2.2.2.2.2.2.2.2.2.2.2.2.2.2.2.2.2.2.2.2.2.2.2.2.2.2.2.2.2.2.2.2.2.2.2.2.2.2.2.2.2.2.2.2.2.2.2.2.2.2.2.2.2.2.2.2.2.2.2.2.2.2.2.2.2.2.2.1
theorem NwX11a.a5 {lay l : zLay} {C c : zMem} {o : Int} (h : NwX11a lay l C c o) : ∀ p j, p = o + 5 → 0 ≤ j → j < 8 → c p j = 5 := h.2.2.2.2.2.2.2.2.2.2.2.2.2.2.2.2.2.2.2.2.2.2.2.2.2.2.2.2.2.2.2.2.2.2.2.2.2.2.2.2.2.2.2.2.2.2.2.2.2.2.2.2.2.2.2.2.2.2.2.2.2.2.2.2.2.2.2.2.2.2.2.2.2.2.2.2.2.2.2.2.2.2.2.2.2.2.2.2.2.2.2.2.2.2.2.2.2.2.2.2.2.2.2.2.2.2.2.2.2.2.2.2.2.2.2.2.2.2.2.2.2.2.2.2.2.2.2.2.2.2.1
theorem NwX11a.a7 {lay l : zLay} {C c : zMem} {o : Int} (h : NwX11a lay l C c o) : ∀ p j, p = o + 7 → 0 ≤ j → j < 25 → c p j = 1 := h.2.2.2.2.2.2.2.2.2.2.2.2.2.2.2.2.2.2.2.2.2.2.2.2.2.2.2.2.2.2.2.2.2.2.2.2.2.2.2.2.2.2.2.2.2.2.2.2.2.2.2.2.2.2.2.2.2.2.2.2.2.2.2.2.2.2.2.2.2.2.2.2.2.2.2.2.2.2.2.2.2.2.2.2.2.2.2.2.2.2.2.2.2.2.2.2.2.2.2.2.2.2.2.2.2.2.2.2.2.2.2.2.2.2.2.2.2.2.2.2.2.2.2.2.2.2.2.2.2.2.2.1
theorem NwX11a.a16 {lay l : zLay} {C c : zMem} {o : Int} (h : NwX11a lay l C c o) : ∀ p j, p = o + 16 → 0 ≤ j → j < 12 → c p j = -1 := h.2.2.2.2.2.2.2.2.2.2.2.2.2.2.2.2.2.2.2.2.2.2.2.2.2.2.2.2.2.2.2.2.2.2.2.2.2.2.2.2.2.2.2.2.2.2.2.2.2.2.2.2.2.2.2.2.2.2.2.2.2.2.2.2.2.2.2.2.2.2.2.2.2.2.2.2.2.2.2.2.2.2.2.2.2.2.2.2.2.2.2.2.2.2.2.2.2.2.2.2.2.2.2.2.2.2.2.2.2.2.2.2.2.2.2.2.2.2.2.2.2.2.2.2.2.2.2.2.2.2.2.2.1
theorem NwX11a.y1 {lay l : zLay} {C c : zMem} {o : Int} (h : NwX11a lay l C c o) : ∀ p j, p = o + 1 → c p j = 0 := h.2.2.2.2.2.2.2.2.2.2.2.2.2.2.2.2.2.2.2.2.2.2.2.2.2.2.2.2.2.2.2.2.2.2.2.2.2.2.2.2.2.2.2.2.2.2.2.2.2.2.2.2.2.2.2.2.2.2.2.2.2.2.2.2.2.2.2.2.2.2.2.2.2.2.2.2.2.2.2.2.2.2.2.2.2.2.2.2.2.2.2.2.2.2.2.2.2.2.2.2.2.2.2.2.2.2.2.2.2.2.2.2.2.2.2.2.2.2.2.2.2.2.2.2.2.2.2.2.2.2.2.2.2.1
theorem NwX11a.d1 {lay l : zLay} {C c : zMem} {o : Int} (h : NwX11a lay l C c o) : ∀ p, p = o → c p 1 = C p 1 := h.2.2.2.2.2.2.2.2.2.2.2.2.2.2.2.2.2.2.2.2.2.2.2.2.2.2.2.2.2.2.2.2.2.2.2.2.2.2.2.2.2.2.2.2.2.2.2.2.2.2.2.2.2.2.2.2.2.2.2.2.2.2.2.2.2.2.2.2.2.2.2.2.2.2.2.2.2.2.2.2.2.2.2.2.2.2.2.2.2.2.2.2.2.2.2.2.2.2.2.2.2.2.2.2.2.2.2.2.2.2.2.2.2.2.2.2.2.2.2.2.2.2.2.2.2.2.2.2.2.2.2.2.2.2.1
theorem NwX11a.d6 {lay l : zLay} {C c : zMem} {o : Int} (h : NwX11a lay l C c o) : ∀ p, p = o → c p 6 = C p 6 := h.2.2.2.2.2.2.2.2.2.2.2.2.2.2.2.2.2.2.2.2.2.2.2.2.2.2.2.2.2.2.2.2.2.2.2.2.2.2.2.2.2.2.2.2.2.2.2.2.2.2.2.2.2.2.2.2.2.2.2.2.2.2.2.2.2.2.2.2.2.2.2.2.2.2.2.2.2.2.2.2.2.2.2.2.2.2.2.2.2.2.2.2.2.2.2.2.2.2.2.2.2.2.2.2.2.2.2.2.2.2.2.2.2.2.2.2.2.2.2.2.2.2.2.2.2.2.2.2.2.2.2.2.2.2.2.1
theorem NwX11a.d8 {lay l : zLay} {C c : zMem} {o : Int} (h : NwX11a lay l C c o) : ∀ p, p = o → c p 8 = C p 8 := h.2.2.2.2.2.2.2.2.2.2.2.2.2.2.2.2.2.2.2.2.2.2.2.2.2.2.2.2.2.2.2.2.2.2.2.2.2.2.2.2.2.2.2.2.2.2.2.2.2.2.2.2.2.2.2.2.2.2.2.2.2.2.2.2.2.2.2.2.2.2.2.2.2.2.2.2.2.2.2.2.2.2.2.2.2.2.2.2.2.2.2.2.2.2.2.2.2.2.2.2.2.2.2.2.2.2.2.2.2.2.2.2.2.2.2.2.2.2.2.2.2.2.2.2.2.2.2.2.2.2.2.2.2.2.2.2.1
theorem NwX11a.d9 {lay l : zLay} {C c : zMem} {o : Int} (h : NwX11a lay l C c o) : ∀ p, p = o → c p 9 = C p 9 := h.2.2.2.2.2.2.2.2.2.2.2.2.2.2.2.2.2.2.2.2.2.2.2.2.2.2.2.2.2.2.2.2.2.2.2.2.2.2.2.2.2.2.2.2.2.2.2.2.2.2.2.2.2.2.2.2.2.2.2.2.2.2.2.2.2.2.2.2.2.2.2.2.2.2.2.2.2.2.2.2.2.2.2.2.2.2.2.2.2.2.2.2.2.2.2.2.2.2.2.2.2.2.2.2.2.2.2.2.2.2.2.2.2.2.2.2.2.2.2.2.2.2.2.2.2.2.2.2.2.2.2.2.2.2.2.2.2.1
theorem NwX11a.z {lay l : zLay} {C c : zMem} {o : Int} (h : NwX11a lay l C c o) : True := h.2.2.2.2.2.2.2.2.2.2.2.2.2.2.2.2.2.2.2.2.2.2.2.2.2.2.2.2.2.2.2.2.2.2.2.2.2.2.2.2.2.2.2.2.2.2.2.2.2.2.2.2.2.2.2.2.2.2.2.2.2.2.2.2.2.2.2.2.2.2.2.2.2.2.2.2.2.2.2.2.2.2.2.2.2.2.2.2.2.2.2.2.2.2.2.2.2.2.2.2.2.2.2.2.2.2.2.2.2.2.2.2.2.2.2.2.2.2.2.2.2.2.2.2.2.2.2.2.2.2.2.2.2.2.2.2.2.2
theorem n_X11a {G : zG} {Q : zQ} {lay : zLay} {C : zMem} {o : Int} (ho : lay o = (12, 15)) (h0 : 0 ≤ o) (w : ∀ l c, NwX11a lay l C c o → zW G KX11_init 6 Q 60 [zP o, zU] [] l c (o + 57) (256, 9806)) : zW G KX11_init 6 Q 0 [zP o, zU] [] lay C (o + 1) (312, 11568) := by
  have hne : o ≠ -1 := by omega
  have ho' : ∀ p, p = o + 0 → lay p = (12, 15) := fun p hp => by rw [hp, Int.add_zero]; exact ho
  have hnm : KX11_init.1.name = "<init>" ∧ (vwCl[11]?).map (·.1) = some RX11 := ⟨rfl, rfl⟩
  refine z_al0 eX11_init_0 hne ?_
  refine z_objInit eX11_init_1 oX11_1 hne (Nat.le_of_ble_eq_true rfl) (Nat.le_of_ble_eq_true rfl) ?_
  refine z_al0 eX11_init_4 hne ?_
  refine z_sipush eX11_init_5 (by decide) ?_
  refine zW.mono (b' := (311 + 1, 11168 + (400 : Int).toNat)) ⟨by decide, by decide⟩ ?_
  refine z_newi eX11_init_8 w_ai ⟨by decide, by decide⟩ ?_
  refine z_pfP (j := 0) lX11_9 eX11_init_10 rfl rfl ((zlay_o (by omega)).trans (ho' _ (by omega))) rfl hnm ?_
  refine z_al0 eX11_init_13 hne ?_
  refine z_iconst eX11_init_14 ?_
  refine z_pfI (j := 2) lX11_13 eX11_init_15 rfl ((zlay_o (by omega)).trans (ho' _ (by omega))) rfl hnm ?_
  refine z_al0 eX11_init_18 hne ?_
  refine zW.mono (b' := (310 + 1, 11153 + 15)) ⟨by decide, by decide⟩ ?_
  refine z_new (ci := 1) eX11_init_19 rfl rfl nX11_17.1 nX11_17.2.1 nX11_17.2.2 ?_
  refine z_dup eX11_init_22 (Nat.ne_of_beq_eq_false rfl) ?_
  refine zW.mono (b' := (17 + 293, 435 + 10718)) ⟨by decide, by decide⟩ ?_
  refine z_callI (b' := (17, 435)) (b'' := (293, 10718)) (av := []) (st := [zP (o + 1 + 1), zP (o)]) eX11_init_23 vX11_19.1 vX11_19.2.1 vX11_19.2.2 (n_X1 (zlay_s' (by omega)) (by omega)) (Nat.le_of_ble_eq_true rfl) (by omega) rfl (Nat.le_of_ble_eq_true rfl) (fun r l1 c1 m1 q => ?_) (fun E9 l9 c9 m9 q => by obtain ⟨q1, q2⟩ := q; cases q1)
  obtain ⟨q1, h1, hm1⟩ := q
  have e9 := Sum.inl.inj q1
  subst e9
  subst hm1
  refine z_pfP (j := 3) lX11_20 eX11_init_26 rfl rfl ((h1.bl _ (by omega)).trans ((zlay_o (by omega)).trans ((zlay_o (by omega)).trans (ho' _ (by omega))))) rfl hnm ?_
  refine z_al0 eX11_init_29 hne ?_
  refine zW.mono (b' := (292 + 1, 10703 + 15)) ⟨by decide, by decide⟩ ?_
  refine z_new (ci := 1) eX11_init_30 rfl rfl nX11_17.1 nX11_17.2.1 nX11_17.2.2 ?_
  refine z_dup eX11_init_33 (Nat.ne_of_beq_eq_false rfl) ?_
  refine zW.mono (b' := (17 + 275, 435 + 10268)) ⟨by decide, by decide⟩ ?_
  refine z_callI (b' := (17, 435)) (b'' := (275, 10268)) (av := []) (st := [zP (o + 1 + 1 + 18), zP (o)]) eX11_init_34 vX11_19.1 vX11_19.2.1 vX11_19.2.2 (n_X1 (zlay_s' (by omega)) (by omega)) (Nat.le_of_ble_eq_true rfl) (by omega) rfl (Nat.le_of_ble_eq_true rfl) (fun r l2 c2 m2 q => ?_) (fun E9 l9 c9 m9 q => by obtain ⟨q1, q2⟩ := q; cases q1)
  obtain ⟨q1, h2, hm2⟩ := q
  have e9 := Sum.inl.inj q1
  subst e9
  subst hm2
  refine z_pfP (j := 4) lX11_24 eX11_init_37 rfl rfl ((h2.bl _ (by omega)).trans ((zlay_o (by omega)).trans ((h1.bl _ (by omega)).trans ((zlay_o (by omega)).trans ((zlay_o (by omega)).trans (ho' _ (by omega))))))) rfl hnm ?_
  refine z_al0 eX11_init_40 hne ?_
  refine zW.mono (b' := (274 + 1, 10253 + 15)) ⟨by decide, by decide⟩ ?_
  refine z_new (ci := 1) eX11_init_41 rfl rfl nX11_17.1 nX11_17.2.1 nX11_17.2.2 ?_
  refine z_dup eX11_init_44 (Nat.ne_of_beq_eq_false rfl) ?_
  refine zW.mono (b' := (17 + 257, 435 + 9818)) ⟨by decide, by decide⟩ ?_
  refine z_callI (b' := (17, 435)) (b'' := (257, 9818)) (av := []) (st := [zP (o + 1 + 1 + 18 + 18), zP (o)]) eX11_init_45 vX11_19.1 vX11_19.2.1 vX11_19.2.2 (n_X1 (zlay_s' (by omega)) (by omega)) (Nat.le_of_ble_eq_true rfl) (by omega) rfl (Nat.le_of_ble_eq_true rfl) (fun r l3 c3 m3 q => ?_) (fun E9 l9 c9 m9 q => by obtain ⟨q1, q2⟩ := q; cases q1)
  obtain ⟨q1, h3, hm3⟩ := q
  have e9 := Sum.inl.inj q1
  subst e9
  subst hm3
  refine z_pfP (j := 5) lX11_27 eX11_init_48 rfl rfl ((h3.bl _ (by omega)).trans ((zlay_o (by omega)).trans ((h2.bl _ (by omega)).trans ((zlay_o (by omega)).trans ((h1.bl _ (by omega)).trans ((zlay_o (by omega)).trans ((zlay_o (by omega)).trans (ho' _ (by omega))))))))) rfl hnm ?_
  refine z_al0 eX11_init_51 hne ?_
  refine z_bipush eX11_init_52 (by decide) ?_
  refine zW.mono (b' := (256 + 1, 9806 + (12 : Int).toNat)) ⟨by decide, by decide⟩ ?_
  refine z_newq eX11_init_54 nX11_17.1 (fun s args _ hK => hK.ao) ⟨by decide, by decide⟩ ?_
  refine z_pfP (j := 7) lX11_30 eX11_init_57 rfl rfl ((zlay_o (by omega)).trans ((h3.bl _ (by omega)).trans ((zlay_o (by omega)).trans ((h2.bl _ (by omega)).trans ((zlay_o (by omega)).trans ((h1.bl _ (by omega)).trans ((zlay_o (by omega)).trans ((zlay_o (by omega)).trans (ho' _ (by omega)))))))))) rfl hnm ?_
  rw [show o + 1 + 1 + 18 + 18 + 18 + 1 = o + 57 by omega]
  exact w _ _ ⟨fun p hp => (zlay_o (by omega)).trans ((h3.bl _ (by omega)).trans ((zlay_o (by omega)).trans ((h2.bl _ (by omega)).trans ((zlay_o (by omega)).trans ((h1.bl _ (by omega)).trans ((zlay_o (by omega)).trans ((zlay_o (by omega)).trans (rfl)))))))),
    fun p hp => (zset_o (by omega)).trans ((zzero_o (by omega)).trans ((zset_o (by omega)).trans ((h3.bc _ (by omega)).trans ((zborn_o (by omega)).trans ((zset_o (by omega)).trans ((h2.bc _ (by omega)).trans ((zborn_o (by omega)).trans ((zset_o (by omega)).trans ((h1.bc _ (by omega)).trans ((zborn_o (by omega)).trans ((zset_o (by omega)).trans ((zset_o (by omega)).trans ((zzero_o (by omega)).trans (rfl)))))))))))))),
    fun p hp => (zlay_o (by omega)).trans ((h3.bl _ (by omega)).trans ((zlay_o (by omega)).trans ((h2.bl _ (by omega)).trans ((zlay_o (by omega)).trans ((h1.bl _ (by omega)).trans ((zlay_o (by omega)).trans ((zlay_o (by omega)).trans (ho' _ (by omega))))))))),
    fun p hp => (zlay_o (by omega)).trans ((h3.bl _ (by omega)).trans ((zlay_o (by omega)).trans ((h2.bl _ (by omega)).trans ((zlay_o (by omega)).trans ((h1.bl _ (by omega)).trans ((zlay_o (by omega)).trans (zlay_s' (by omega)))))))),
    fun p hp => (zlay_o (by omega)).trans ((h3.bl _ (by omega)).trans ((zlay_o (by omega)).trans ((h2.bl _ (by omega)).trans ((zlay_o (by omega)).trans (h1.l0 _ (by omega)))))),
    fun p hp => (zlay_o (by omega)).trans ((h3.bl _ (by omega)).trans ((zlay_o (by omega)).trans ((h2.bl _ (by omega)).trans ((zlay_o (by omega)).trans (h1.l1 _ (by omega)))))),
    fun p hp => (zlay_o (by omega)).trans ((h3.bl _ (by omega)).trans ((zlay_o (by omega)).trans ((h2.bl _ (by omega)).trans ((zlay_o (by omega)).trans (h1.l2 _ (by omega)))))),
    fun p hp => (zlay_o (by omega)).trans ((h3.bl _ (by omega)).trans ((zlay_o (by omega)).trans ((h2.bl _ (by omega)).trans ((zlay_o (by omega)).trans (h1.l3 _ (by omega)))))),
    fun p hp => (zlay_o (by omega)).trans ((h3.bl _ (by omega)).trans ((zlay_o (by omega)).trans ((h2.bl _ (by omega)).trans ((zlay_o (by omega)).trans (h1.l4 _ (by omega)))))),
    fun p hp => (zlay_o (by omega)).trans ((h3.bl _ (by omega)).trans ((zlay_o (by omega)).trans ((h2.bl _ (by omega)).trans ((zlay_o (by omega)).trans (h1.l5 _ (by omega)))))),
    fun p hp => (zlay_o (by omega)).trans ((h3.bl _ (by omega)).trans ((zlay_o (by omega)).trans ((h2.bl _ (by omega)).trans ((zlay_o (by omega)).trans (h1.l6 _ (by omega)))))),
    fun p hp => (zlay_o (by omega)).trans ((h3.bl _ (by omega)).trans ((zlay_o (by omega)).trans ((h2.bl _ (by omega)).trans ((zlay_o (by omega)).trans (h1.l7 _ (by omega)))))),
    fun p hp => (zlay_o (by omega)).trans ((h3.bl _ (by omega)).trans ((zlay_o (by omega)).trans ((h2.bl _ (by omega)).trans ((zlay_o (by omega)).trans (h1.l8 _ (by omega)))))),
    fun p hp => (zlay_o (by omega)).trans ((h3.bl _ (by omega)).trans ((zlay_o (by omega)).trans ((h2.bl _ (by omega)).trans ((zlay_o (by omega)).trans (h1.l9 _ (by omega)))))),
    fun p hp => (zlay_o (by omega)).trans ((h3.bl _ (by omega)).trans ((zlay_o (by omega)).trans ((h2.bl _ (by omega)).trans ((zlay_o (by omega)).trans (h1.l10 _ (by omega)))))),
    fun p hp => (zlay_o (by omega)).trans ((h3.bl _ (by omega)).trans ((zlay_o (by omega)).trans ((h2.bl _ (by omega)).trans ((zlay_o (by omega)).trans (h1.l11 _ (by omega)))))),
    fun p hp => (zlay_o (by omega)).trans ((h3.bl _ (by omega)).trans ((zlay_o (by omega)).trans ((h2.bl _ (by omega)).trans ((zlay_o (by omega)).trans (h1.l12 _ (by omega)))))),
    fun p hp => (zlay_o (by omega)).trans ((h3.bl _ (by omega)).trans ((zlay_o (by omega)).trans ((h2.bl _ (by omega)).trans ((zlay_o (by omega)).trans (h1.l13 _ (by omega)))))),
    fun p hp => (zlay_o (by omega)).trans ((h3.bl _ (by omega)).trans ((zlay_o (by omega)).trans ((h2.bl _ (by omega)).trans ((zlay_o (by omega)).trans (h1.l14 _ (by omega)))))),
    fun p hp => (zlay_o (by omega)).trans ((h3.bl _ (by omega)).trans ((zlay_o (by omega)).trans ((h2.bl _ (by omega)).trans ((zlay_o (by omega)).trans (h1.l15 _ (by omega)))))),
    fun p hp => (zlay_o (by omega)).trans ((h3.bl _ (by omega)).trans ((zlay_o (by omega)).trans ((h2.bl _ (by omega)).trans ((zlay_o (by omega)).trans (h1.l16 _ (by omega)))))),
    fun p hp => (zlay_o (by omega)).trans ((h3.bl _ (by omega)).trans ((zlay_o (by omega)).trans ((h2.bl _ (by omega)).trans ((zlay_o (by omega)).trans (h1.l17 _ (by omega)))))),
    fun p hp => (zlay_o (by omega)).trans ((h3.bl _ (by omega)).trans ((zlay_o (by omega)).trans (h2.l0 _ (by omega)))),
    fun p hp => (zlay_o (by omega)).trans ((h3.bl _ (by omega)).trans ((zlay_o (by omega)).trans (h2.l1 _ (by omega)))),
    fun p hp => (zlay_o (by omega)).trans ((h3.bl _ (by omega)).trans ((zlay_o (by omega)).trans (h2.l2 _ (by omega)))),
    fun p hp => (zlay_o (by omega)).trans ((h3.bl _ (by omega)).trans ((zlay_o (by omega)).trans (h2.l3 _ (by omega)))),
    fun p hp => (zlay_o (by omega)).trans ((h3.bl _ (by omega)).trans ((zlay_o (by omega)).trans (h2.l4 _ (by omega)))),
    fun p hp => (zlay_o (by omega)).trans ((h3.bl _ (by omega)).trans ((zlay_o (by omega)).trans (h2.l5 _ (by omega)))),
    fun p hp => (zlay_o (by omega)).trans ((h3.bl _ (by omega)).trans ((zlay_o (by omega)).trans (h2.l6 _ (by omega)))),
    fun p hp => (zlay_o (by omega)).trans ((h3.bl _ (by omega)).trans ((zlay_o (by omega)).trans (h2.l7 _ (by omega)))),
    fun p hp => (zlay_o (by omega)).trans ((h3.bl _ (by omega)).trans ((zlay_o (by omega)).trans (h2.l8 _ (by omega)))),
    fun p hp => (zlay_o (by omega)).trans ((h3.bl _ (by omega)).trans ((zlay_o (by omega)).trans (h2.l9 _ (by omega)))),
    fun p hp => (zlay_o (by omega)).trans ((h3.bl _ (by omega)).trans ((zlay_o (by omega)).trans (h2.l10 _ (by omega)))),
    fun p hp => (zlay_o (by omega)).trans ((h3.bl _ (by omega)).trans ((zlay_o (by omega)).trans (h2.l11 _ (by omega)))),
    fun p hp => (zlay_o (by omega)).trans ((h3.bl _ (by omega)).trans ((zlay_o (by omega)).trans (h2.l12 _ (by omega)))),
    fun p hp => (zlay_o (by omega)).trans ((h3.bl _ (by omega)).trans ((zlay_o (by omega)).trans (h2.l13 _ (by omega)))),
    fun p hp => (zlay_o (by omega)).trans ((h3.bl _ (by omega)).trans ((zlay_o (by omega)).trans (h2.l14 _ (by omega)))),
    fun p hp => (zlay_o (by omega)).trans ((h3.bl _ (by omega)).trans ((zlay_o (by omega)).trans (h2.l15 _ (by omega)))),
    fun p hp => (zlay_o (by omega)).trans ((h3.bl _ (by omega)).trans ((zlay_o (by omega)).trans (h2.l16 _ (by omega)))),
    fun p hp => (zlay_o (by omega)).trans ((h3.bl _ (by omega)).trans ((zlay_o (by omega)).trans (h2.l17 _ (by omega)))),
    fun p hp => (zlay_o (by omega)).trans (h3.l0 _ (by omega)),
    fun p hp => (zlay_o (by omega)).trans (h3.l1 _ (by omega)),
    fun p hp => (zlay_o (by omega)).trans (h3.l2 _ (by omega)),
    fun p hp => (zlay_o (by omega)).trans (h3.l3 _ (by omega)),
    fun p hp => (zlay_o (by omega)).trans (h3.l4 _ (by omega)),
    fun p hp => (zlay_o (by omega)).trans (h3.l5 _ (by omega)),
    fun p hp => (zlay_o (by omega)).trans (h3.l6 _ (by omega)),
    fun p hp => (zlay_o (by omega)).trans (h3.l7 _ (by omega)),
    fun p hp => (zlay_o (by omega)).trans (h3.l8 _ (by omega)),
    fun p hp => (zlay_o (by omega)).trans (h3.l9 _ (by omega)),
    fun p hp => (zlay_o (by omega)).trans (h3.l10 _ (by omega)),
    fun p hp => (zlay_o (by omega)).trans (h3.l11 _ (by omega)),
    fun p hp => (zlay_o (by omega)).trans (h3.l12 _ (by omega)),
    fun p hp => (zlay_o (by omega)).trans (h3.l13 _ (by omega)),
    fun p hp => (zlay_o (by omega)).trans (h3.l14 _ (by omega)),
    fun p hp => (zlay_o (by omega)).trans (h3.l15 _ (by omega)),
    fun p hp => (zlay_o (by omega)).trans (h3.l16 _ (by omega)),
    fun p hp => (zlay_o (by omega)).trans (h3.l17 _ (by omega)),
    fun p hp => zlay_s' (by omega),
    fun p hp => (zset_n (Or.inr (by decide))).trans ((zzero_n (by omega)).trans ((zset_n (Or.inr (by decide))).trans ((congrFun (h3.bc _ (by omega)) _).trans ((zborn_n (by omega)).trans ((zset_n (Or.inr (by decide))).trans ((congrFun (h2.bc _ (by omega)) _).trans ((zborn_n (by omega)).trans ((zset_n (Or.inr (by decide))).trans ((congrFun (h1.bc _ (by omega)) _).trans ((zborn_n (by omega)).trans ((zset_n (Or.inr (by decide))).trans ((zset_s' (by omega)).trans (by omega))))))))))))),
    fun p hp => (zset_n (Or.inl (by omega))).trans ((zzero_n (by omega)).trans ((zset_n (Or.inl (by omega))).trans ((congrFun (h3.bc _ (by omega)) _).trans ((zborn_n (by omega)).trans ((zset_n (Or.inl (by omega))).trans ((congrFun (h2.bc _ (by omega)) _).trans ((zborn_n (by omega)).trans ((zset_n (Or.inl (by omega))).trans ((h1.r0_2 _ (by omega)).trans (by omega)))))))))),
    fun p hp => (zset_n (Or.inl (by omega))).trans ((zzero_n (by omega)).trans ((zset_n (Or.inl (by omega))).trans ((congrFun (h3.bc _ (by omega)) _).trans ((zborn_n (by omega)).trans ((zset_n (Or.inl (by omega))).trans ((congrFun (h2.bc _ (by omega)) _).trans ((zborn_n (by omega)).trans ((zset_n (Or.inl (by omega))).trans ((h1.r0_3 _ (by omega)).trans (by omega)))))))))),
    fun p hp => (zset_n (Or.inl (by omega))).trans ((zzero_n (by omega)).trans ((zset_n (Or.inl (by omega))).trans ((congrFun (h3.bc _ (by omega)) _).trans ((zborn_n (by omega)).trans ((zset_n (Or.inl (by omega))).trans ((congrFun (h2.bc _ (by omega)) _).trans ((zborn_n (by omega)).trans ((zset_n (Or.inl (by omega))).trans ((h1.r0_6 _ (by omega)).trans (by omega)))))))))),
    fun p hp => (zset_n (Or.inl (by omega))).trans ((zzero_n (by omega)).trans ((zset_n (Or.inl (by omega))).trans ((congrFun (h3.bc _ (by omega)) _).trans ((zborn_n (by omega)).trans ((zset_n (Or.inl (by omega))).trans ((congrFun (h2.bc _ (by omega)) _).trans ((zborn_n (by omega)).trans ((zset_n (Or.inl (by omega))).trans ((h1.r4_4 _ (by omega)).trans (by omega)))))))))),
    fun p hp => (zset_n (Or.inl (by omega))).trans ((zzero_n (by omega)).trans ((zset_n (Or.inl (by omega))).trans ((congrFun (h3.bc _ (by omega)) _).trans ((zborn_n (by omega)).trans ((zset_n (Or.inl (by omega))).trans ((congrFun (h2.bc _ (by omega)) _).trans ((zborn_n (by omega)).trans ((zset_n (Or.inl (by omega))).trans ((h1.r4_5 _ (by omega)).trans (by omega)))))))))),
    fun p hp => (zset_n (Or.inl (by omega))).trans ((zzero_n (by omega)).trans ((zset_n (Or.inl (by omega))).trans ((congrFun (h3.bc _ (by omega)) _).trans ((zborn_n (by omega)).trans ((zset_n (Or.inl (by omega))).trans ((congrFun (h2.bc _ (by omega)) _).trans ((zborn_n (by omega)).trans ((zset_n (Or.inl (by omega))).trans ((h1.r4_6 _ (by omega)).trans (by omega)))))))))),
    fun p hp => (zset_n (Or.inl (by omega))).trans ((zzero_n (by omega)).trans ((zset_n (Or.inl (by omega))).trans ((congrFun (h3.bc _ (by omega)) _).trans ((zborn_n (by omega)).trans ((zset_n (Or.inl (by omega))).trans ((congrFun (h2.bc _ (by omega)) _).trans ((zborn_n (by omega)).trans ((zset_n (Or.inl (by omega))).trans ((h1.r0_11 _ (by omega)).trans (by omega)))))))))),
    fun p hp => (zset_n (Or.inl (by omega))).trans ((zzero_n (by omega)).trans ((zset_n (Or.inl (by omega))).trans ((congrFun (h3.bc _ (by omega)) _).trans ((zborn_n (by omega)).trans ((zset_n (Or.inl (by omega))).trans ((congrFun (h2.bc _ (by omega)) _).trans ((zborn_n (by omega)).trans ((zset_n (Or.inl (by omega))).trans ((h1.r8_1 _ (by omega)).trans (by omega)))))))))),
    fun p hp => (zset_n (Or.inl (by omega))).trans ((zzero_n (by omega)).trans ((zset_n (Or.inl (by omega))).trans ((congrFun (h3.bc _ (by omega)) _).trans ((zborn_n (by omega)).trans ((zset_n (Or.inl (by omega))).trans ((congrFun (h2.bc _ (by omega)) _).trans ((zborn_n (by omega)).trans ((zset_n (Or.inl (by omega))).trans ((h1.r8_2 _ (by omega)).trans (by omega)))))))))),
    fun p hp => (zset_n (Or.inl (by omega))).trans ((zzero_n (by omega)).trans ((zset_n (Or.inl (by omega))).trans ((congrFun (h3.bc _ (by omega)) _).trans ((zborn_n (by omega)).trans ((zset_n (Or.inl (by omega))).trans ((congrFun (h2.bc _ (by omega)) _).trans ((zborn_n (by omega)).trans ((zset_n (Or.inl (by omega))).trans ((h1.r8_3 _ (by omega)).trans (by omega)))))))))),
    fun p hp => (zset_n (Or.inl (by omega))).trans ((zzero_n (by omega)).trans ((zset_n (Or.inl (by omega))).trans ((congrFun (h3.bc _ (by omega)) _).trans ((zborn_n (by omega)).trans ((zset_n (Or.inl (by omega))).trans ((congrFun (h2.bc _ (by omega)) _).trans ((zborn_n (by omega)).trans ((zset_n (Or.inl (by omega))).trans ((h1.r8_4 _ (by omega)).trans (by omega)))))))))),
    fun p hp => (zset_n (Or.inl (by omega))).trans ((zzero_n (by omega)).trans ((zset_n (Or.inl (by omega))).trans ((congrFun (h3.bc _ (by omega)) _).trans ((zborn_n (by omega)).trans ((zset_n (Or.inl (by omega))).trans ((congrFun (h2.bc _ (by omega)) _).trans ((zborn_n (by omega)).trans ((zset_n (Or.inl (by omega))).trans ((h1.r8_5 _ (by omega)).trans (by omega)))))))))),
    fun p hp => (zset_n (Or.inl (by omega))).trans ((zzero_n (by omega)).trans ((zset_n (Or.inl (by omega))).trans ((congrFun (h3.bc _ (by omega)) _).trans ((zborn_n (by omega)).trans ((zset_n (Or.inl (by omega))).trans ((congrFun (h2.bc _ (by omega)) _).trans ((zborn_n (by omega)).trans ((zset_n (Or.inl (by omega))).trans ((h1.r8_6 _ (by omega)).trans (by omega)))))))))),
    fun p hp => (zset_n (Or.inl (by omega))).trans ((zzero_n (by omega)).trans ((zset_n (Or.inl (by omega))).trans ((congrFun (h3.bc _ (by omega)) _).trans ((zborn_n (by omega)).trans ((zset_n (Or.inl (by omega))).trans ((congrFun (h2.bc _ (by omega)) _).trans ((zborn_n (by omega)).trans ((zset_n (Or.inl (by omega))).trans ((h1.r0_12 _ (by omega)).trans (by omega)))))))))),
    fun p hp => (zset_n (Or.inl (by omega))).trans ((zzero_n (by omega)).trans ((zset_n (Or.inl (by omega))).trans ((congrFun (h3.bc _ (by omega)) _).trans ((zborn_n (by omega)).trans ((zset_n (Or.inl (by omega))).trans ((congrFun (h2.bc _ (by omega)) _).trans ((zborn_n (by omega)).trans ((zset_n (Or.inl (by omega))).trans ((h1.r15_1 _ (by omega)).trans (by omega)))))))))),
    fun p hp => (zset_n (Or.inl (by omega))).trans ((zzero_n (by omega)).trans ((zset_n (Or.inl (by omega))).trans ((congrFun (h3.bc _ (by omega)) _).trans ((zborn_n (by omega)).trans ((zset_n (Or.inl (by omega))).trans ((congrFun (h2.bc _ (by omega)) _).trans ((zborn_n (by omega)).trans ((zset_n (Or.inl (by omega))).trans ((h1.r0_13 _ (by omega)).trans (by omega)))))))))),
    fun p hp => (zset_n (Or.inl (by omega))).trans ((zzero_n (by omega)).trans ((zset_n (Or.inl (by omega))).trans ((congrFun (h3.bc _ (by omega)) _).trans ((zborn_n (by omega)).trans ((zset_n (Or.inl (by omega))).trans ((congrFun (h2.bc _ (by omega)) _).trans ((zborn_n (by omega)).trans ((zset_n (Or.inl (by omega))).trans ((h1.r0_14 _ (by omega)).trans (by omega)))))))))),
    fun p hp => (zset_n (Or.inr (by decide))).trans ((zzero_n (by omega)).trans ((zset_n (Or.inr (by decide))).trans ((congrFun (h3.bc _ (by omega)) _).trans ((zborn_n (by omega)).trans ((zset_n (Or.inr (by decide))).trans ((congrFun (h2.bc _ (by omega)) _).trans ((zborn_n (by omega)).trans ((zset_s' (by omega)).trans (by omega))))))))),
    fun p hp => (zset_n (Or.inl (by omega))).trans ((zzero_n (by omega)).trans ((zset_n (Or.inl (by omega))).trans ((congrFun (h3.bc _ (by omega)) _).trans ((zborn_n (by omega)).trans ((zset_n (Or.inl (by omega))).trans ((h2.r0_2 _ (by omega)).trans (by omega))))))),
    fun p hp => (zset_n (Or.inl (by omega))).trans ((zzero_n (by omega)).trans ((zset_n (Or.inl (by omega))).trans ((congrFun (h3.bc _ (by omega)) _).trans ((zborn_n (by omega)).trans ((zset_n (Or.inl (by omega))).trans ((h2.r0_3 _ (by omega)).trans (by omega))))))),
    fun p hp => (zset_n (Or.inl (by omega))).trans ((zzero_n (by omega)).trans ((zset_n (Or.inl (by omega))).trans ((congrFun (h3.bc _ (by omega)) _).trans ((zborn_n (by omega)).trans ((zset_n (Or.inl (by omega))).trans ((h2.r0_6 _ (by omega)).trans (by omega))))))),
    fun p hp => (zset_n (Or.inl (by omega))).trans ((zzero_n (by omega)).trans ((zset_n (Or.inl (by omega))).trans ((congrFun (h3.bc _ (by omega)) _).trans ((zborn_n (by omega)).trans ((zset_n (Or.inl (by omega))).trans ((h2.r4_4 _ (by omega)).trans (by omega))))))),
    fun p hp => (zset_n (Or.inl (by omega))).trans ((zzero_n (by omega)).trans ((zset_n (Or.inl (by omega))).trans ((congrFun (h3.bc _ (by omega)) _).trans ((zborn_n (by omega)).trans ((zset_n (Or.inl (by omega))).trans ((h2.r4_5 _ (by omega)).trans (by omega))))))),
    fun p hp => (zset_n (Or.inl (by omega))).trans ((zzero_n (by omega)).trans ((zset_n (Or.inl (by omega))).trans ((congrFun (h3.bc _ (by omega)) _).trans ((zborn_n (by omega)).trans ((zset_n (Or.inl (by omega))).trans ((h2.r4_6 _ (by omega)).trans (by omega))))))),
    fun p hp => (zset_n (Or.inl (by omega))).trans ((zzero_n (by omega)).trans ((zset_n (Or.inl (by omega))).trans ((congrFun (h3.bc _ (by omega)) _).trans ((zborn_n (by omega)).trans ((zset_n (Or.inl (by omega))).trans ((h2.r0_11 _ (by omega)).trans (by omega))))))),
    fun p hp => (zset_n (Or.inl (by omega))).trans ((zzero_n (by omega)).trans ((zset_n (Or.inl (by omega))).trans ((congrFun (h3.bc _ (by omega)) _).trans ((zborn_n (by omega)).trans ((zset_n (Or.inl (by omega))).trans ((h2.r8_1 _ (by omega)).trans (by omega))))))),
    fun p hp => (zset_n (Or.inl (by omega))).trans ((zzero_n (by omega)).trans ((zset_n (Or.inl (by omega))).trans ((congrFun (h3.bc _ (by omega)) _).trans ((zborn_n (by omega)).trans ((zset_n (Or.inl (by omega))).trans ((h2.r8_2 _ (by omega)).trans (by omega))))))),
    fun p hp => (zset_n (Or.inl (by omega))).trans ((zzero_n (by omega)).trans ((zset_n (Or.inl (by omega))).trans ((congrFun (h3.bc _ (by omega)) _).trans ((zborn_n (by omega)).trans ((zset_n (Or.inl (by omega))).trans ((h2.r8_3 _ (by omega)).trans (by omega))))))),
    fun p hp => (zset_n (Or.inl (by omega))).trans ((zzero_n (by omega)).trans ((zset_n (Or.inl (by omega))).trans ((congrFun (h3.bc _ (by omega)) _).trans ((zborn_n (by omega)).trans ((zset_n (Or.inl (by omega))).trans ((h2.r8_4 _ (by omega)).trans (by omega))))))),
    fun p hp => (zset_n (Or.inl (by omega))).trans ((zzero_n (by omega)).trans ((zset_n (Or.inl (by omega))).trans ((congrFun (h3.bc _ (by omega)) _).trans ((zborn_n (by omega)).trans ((zset_n (Or.inl (by omega))).trans ((h2.r8_5 _ (by omega)).trans (by omega))))))),
    fun p hp => (zset_n (Or.inl (by omega))).trans ((zzero_n (by omega)).trans ((zset_n (Or.inl (by omega))).trans ((congrFun (h3.bc _ (by omega)) _).trans ((zborn_n (by omega)).trans ((zset_n (Or.inl (by omega))).trans ((h2.r8_6 _ (by omega)).trans (by omega))))))),
    fun p hp => (zset_n (Or.inl (by omega))).trans ((zzero_n (by omega)).trans ((zset_n (Or.inl (by omega))).trans ((congrFun (h3.bc _ (by omega)) _).trans ((zborn_n (by omega)).trans ((zset_n (Or.inl (by omega))).trans ((h2.r0_12 _ (by omega)).trans (by omega))))))),
    fun p hp => (zset_n (Or.inl (by omega))).trans ((zzero_n (by omega)).trans ((zset_n (Or.inl (by omega))).trans ((congrFun (h3.bc _ (by omega)) _).trans ((zborn_n (by omega)).trans ((zset_n (Or.inl (by omega))).trans ((h2.r15_1 _ (by omega)).trans (by omega))))))),
    fun p hp => (zset_n (Or.inl (by omega))).trans ((zzero_n (by omega)).trans ((zset_n (Or.inl (by omega))).trans ((congrFun (h3.bc _ (by omega)) _).trans ((zborn_n (by omega)).trans ((zset_n (Or.inl (by omega))).trans ((h2.r0_13 _ (by omega)).trans (by omega))))))),
    fun p hp => (zset_n (Or.inl (by omega))).trans ((zzero_n (by omega)).trans ((zset_n (Or.inl (by omega))).trans ((congrFun (h3.bc _ (by omega)) _).trans ((zborn_n (by omega)).trans ((zset_n (Or.inl (by omega))).trans ((h2.r0_14 _ (by omega)).trans (by omega))))))),
    fun p hp => (zset_n (Or.inr (by decide))).trans ((zzero_n (by omega)).trans ((zset_n (Or.inr (by decide))).trans ((congrFun (h3.bc _ (by omega)) _).trans ((zborn_n (by omega)).trans ((zset_s' (by omega)).trans (by omega)))))),
    fun p hp => (zset_n (Or.inl (by omega))).trans ((zzero_n (by omega)).trans ((zset_n (Or.inl (by omega))).trans ((h3.r0_2 _ (by omega)).trans (by omega)))),
    fun p hp => (zset_n (Or.inl (by omega))).trans ((zzero_n (by omega)).trans ((zset_n (Or.inl (by omega))).trans ((h3.r0_3 _ (by omega)).trans (by omega)))),
    fun p hp => (zset_n (Or.inl (by omega))).trans ((zzero_n (by omega)).trans ((zset_n (Or.inl (by omega))).trans ((h3.r0_6 _ (by omega)).trans (by omega)))),
    fun p hp => (zset_n (Or.inl (by omega))).trans ((zzero_n (by omega)).trans ((zset_n (Or.inl (by omega))).trans ((h3.r4_4 _ (by omega)).trans (by omega)))),
    fun p hp => (zset_n (Or.inl (by omega))).trans ((zzero_n (by omega)).trans ((zset_n (Or.inl (by omega))).trans ((h3.r4_5 _ (by omega)).trans (by omega)))),
    fun p hp => (zset_n (Or.inl (by omega))).trans ((zzero_n (by omega)).trans ((zset_n (Or.inl (by omega))).trans ((h3.r4_6 _ (by omega)).trans (by omega)))),
    fun p hp => (zset_n (Or.inl (by omega))).trans ((zzero_n (by omega)).trans ((zset_n (Or.inl (by omega))).trans ((h3.r0_11 _ (by omega)).trans (by omega)))),
    fun p hp => (zset_n (Or.inl (by omega))).trans ((zzero_n (by omega)).trans ((zset_n (Or.inl (by omega))).trans ((h3.r8_1 _ (by omega)).trans (by omega)))),
    fun p hp => (zset_n (Or.inl (by omega))).trans ((zzero_n (by omega)).trans ((zset_n (Or.inl (by omega))).trans ((h3.r8_2 _ (by omega)).trans (by omega)))),
    fun p hp => (zset_n (Or.inl (by omega))).trans ((zzero_n (by omega)).trans ((zset_n (Or.inl (by omega))).trans ((h3.r8_3 _ (by omega)).trans (by omega)))),
    fun p hp => (zset_n (Or.inl (by omega))).trans ((zzero_n (by omega)).trans ((zset_n (Or.inl (by omega))).trans ((h3.r8_4 _ (by omega)).trans (by omega)))),
    fun p hp => (zset_n (Or.inl (by omega))).trans ((zzero_n (by omega)).trans ((zset_n (Or.inl (by omega))).trans ((h3.r8_5 _ (by omega)).trans (by omega)))),
    fun p hp => (zset_n (Or.inl (by omega))).trans ((zzero_n (by omega)).trans ((zset_n (Or.inl (by omega))).trans ((h3.r8_6 _ (by omega)).trans (by omega)))),
    fun p hp => (zset_n (Or.inl (by omega))).trans ((zzero_n (by omega)).trans ((zset_n (Or.inl (by omega))).trans ((h3.r0_12 _ (by omega)).trans (by omega)))),
    fun p hp => (zset_n (Or.inl (by omega))).trans ((zzero_n (by omega)).trans ((zset_n (Or.inl (by omega))).trans ((h3.r15_1 _ (by omega)).trans (by omega)))),
    fun p hp => (zset_n (Or.inl (by omega))).trans ((zzero_n (by omega)).trans ((zset_n (Or.inl (by omega))).trans ((h3.r0_13 _ (by omega)).trans (by omega)))),
    fun p hp => (zset_n (Or.inl (by omega))).trans ((zzero_n (by omega)).trans ((zset_n (Or.inl (by omega))).trans ((h3.r0_14 _ (by omega)).trans (by omega)))),
    fun p hp => (zset_n (Or.inr (by decide))).trans ((zzero_n (by omega)).trans ((zset_s' (by omega)).trans (by omega))),
    fun p hp => (zset_s' (by omega)).trans (by omega),
    fun p hp => (zset_n (Or.inr (by decide))).trans ((zzero_n (by omega)).trans ((zset_n (Or.inr (by decide))).trans ((congrFun (h3.bc _ (by omega)) _).trans ((zborn_n (by omega)).trans ((zset_n (Or.inr (by decide))).trans ((congrFun (h2.bc _ (by omega)) _).trans ((zborn_n (by omega)).trans ((zset_n (Or.inr (by decide))).trans ((congrFun (h1.bc _ (by omega)) _).trans ((zborn_n (by omega)).trans ((zset_s' (by omega)).trans (by omega)))))))))))),
    fun p hp => (zset_n (Or.inl (by omega))).trans ((zzero_n (by omega)).trans ((zset_n (Or.inl (by omega))).trans ((congrFun (h3.bc _ (by omega)) _).trans ((zborn_n (by omega)).trans ((zset_n (Or.inl (by omega))).trans ((congrFun (h2.bc _ (by omega)) _).trans ((zborn_n (by omega)).trans ((zset_n (Or.inl (by omega))).trans ((h1.d0 _ (by omega)).trans ((zborn_s' (by omega)).trans (by decide))))))))))),
    fun p hp => (zset_n (Or.inl (by omega))).trans ((zzero_n (by omega)).trans ((zset_n (Or.inl (by omega))).trans ((congrFun (h3.bc _ (by omega)) _).trans ((zborn_n (by omega)).trans ((zset_n (Or.inl (by omega))).trans ((congrFun (h2.bc _ (by omega)) _).trans ((zborn_n (by omega)).trans ((zset_n (Or.inl (by omega))).trans ((h1.d1 _ (by omega)).trans ((zborn_s' (by omega)).trans (by decide))))))))))),
    fun p hp => (zset_n (Or.inl (by omega))).trans ((zzero_n (by omega)).trans ((zset_n (Or.inl (by omega))).trans ((congrFun (h3.bc _ (by omega)) _).trans ((zborn_n (by omega)).trans ((zset_n (Or.inl (by omega))).trans ((congrFun (h2.bc _ (by omega)) _).trans ((zborn_n (by omega)).trans ((zset_n (Or.inl (by omega))).trans ((h1.d4 _ (by omega)).trans ((zborn_s' (by omega)).trans (by decide))))))))))),
    fun p hp => (zset_n (Or.inl (by omega))).trans ((zzero_n (by omega)).trans ((zset_n (Or.inl (by omega))).trans ((congrFun (h3.bc _ (by omega)) _).trans ((zborn_n (by omega)).trans ((zset_n (Or.inl (by omega))).trans ((congrFun (h2.bc _ (by omega)) _).trans ((zborn_n (by omega)).trans ((zset_n (Or.inl (by omega))).trans ((h1.d5 _ (by omega)).trans ((zborn_s' (by omega)).trans (by decide))))))))))),
    fun p hp => (zset_n (Or.inl (by omega))).trans ((zzero_n (by omega)).trans ((zset_n (Or.inl (by omega))).trans ((congrFun (h3.bc _ (by omega)) _).trans ((zborn_n (by omega)).trans ((zset_n (Or.inl (by omega))).trans ((congrFun (h2.bc _ (by omega)) _).trans ((zborn_n (by omega)).trans ((zset_n (Or.inl (by omega))).trans ((h1.d10 _ (by omega)).trans ((zborn_s' (by omega)).trans (by decide))))))))))),
    fun p hp => (zset_n (Or.inl (by omega))).trans ((zzero_n (by omega)).trans ((zset_n (Or.inl (by omega))).trans ((congrFun (h3.bc _ (by omega)) _).trans ((zborn_n (by omega)).trans ((zset_n (Or.inl (by omega))).trans ((congrFun (h2.bc _ (by omega)) _).trans ((zborn_n (by omega)).trans ((zset_n (Or.inl (by omega))).trans (h1.v0_7 _ (by omega)))))))))),
    fun p hp => (zset_n (Or.inl (by omega))).trans ((zzero_n (by omega)).trans ((zset_n (Or.inl (by omega))).trans ((congrFun (h3.bc _ (by omega)) _).trans ((zborn_n (by omega)).trans ((zset_n (Or.inl (by omega))).trans ((congrFun (h2.bc _ (by omega)) _).trans ((zborn_n (by omega)).trans ((zset_n (Or.inl (by omega))).trans (h1.v0_8 _ (by omega)))))))))),
    fun p hp => (zset_n (Or.inl (by omega))).trans ((zzero_n (by omega)).trans ((zset_n (Or.inl (by omega))).trans ((congrFun (h3.bc _ (by omega)) _).trans ((zborn_n (by omega)).trans ((zset_n (Or.inl (by omega))).trans ((congrFun (h2.bc _ (by omega)) _).trans ((zborn_n (by omega)).trans ((zset_n (Or.inl (by omega))).trans (h1.v0_9 _ (by omega)))))))))),
    fun p hp => (zset_n (Or.inl (by omega))).trans ((zzero_n (by omega)).trans ((zset_n (Or.inl (by omega))).trans ((congrFun (h3.bc _ (by omega)) _).trans ((zborn_n (by omega)).trans ((zset_n (Or.inl (by omega))).trans ((congrFun (h2.bc _ (by omega)) _).trans ((zborn_n (by omega)).trans ((zset_n (Or.inl (by omega))).trans (h1.v4_0 _ (by omega)))))))))),
    fun p hp => (zset_n (Or.inl (by omega))).trans ((zzero_n (by omega)).trans ((zset_n (Or.inl (by omega))).trans ((congrFun (h3.bc _ (by omega)) _).trans ((zborn_n (by omega)).trans ((zset_n (Or.inl (by omega))).trans ((congrFun (h2.bc _ (by omega)) _).trans ((zborn_n (by omega)).trans ((zset_n (Or.inl (by omega))).trans (h1.v4_1 _ (by omega)))))))))),
    fun p hp => (zset_n (Or.inl (by omega))).trans ((zzero_n (by omega)).trans ((zset_n (Or.inl (by omega))).trans ((congrFun (h3.bc _ (by omega)) _).trans ((zborn_n (by omega)).trans ((zset_n (Or.inl (by omega))).trans ((congrFun (h2.bc _ (by omega)) _).trans ((zborn_n (by omega)).trans ((zset_n (Or.inl (by omega))).trans (h1.v4_2 _ (by omega)))))))))),
    fun p hp => (zset_n (Or.inl (by omega))).trans ((zzero_n (by omega)).trans ((zset_n (Or.inl (by omega))).trans ((congrFun (h3.bc _ (by omega)) _).trans ((zborn_n (by omega)).trans ((zset_n (Or.inl (by omega))).trans ((congrFun (h2.bc _ (by omega)) _).trans ((zborn_n (by omega)).trans ((zset_n (Or.inl (by omega))).trans (h1.v4_3 _ (by omega)))))))))),
    fun p hp => (zset_n (Or.inl (by omega))).trans ((zzero_n (by omega)).trans ((zset_n (Or.inl (by omega))).trans ((congrFun (h3.bc _ (by omega)) _).trans ((zborn_n (by omega)).trans ((zset_n (Or.inl (by omega))).trans ((congrFun (h2.bc _ (by omega)) _).trans ((zborn_n (by omega)).trans ((zset_n (Or.inl (by omega))).trans (h1.v8_0 _ (by omega)))))))))),
    fun p hp => (zset_n (Or.inl (by omega))).trans ((zzero_n (by omega)).trans ((zset_n (Or.inl (by omega))).trans ((congrFun (h3.bc _ (by omega)) _).trans ((zborn_n (by omega)).trans ((zset_n (Or.inl (by omega))).trans ((congrFun (h2.bc _ (by omega)) _).trans ((zborn_n (by omega)).trans ((zset_n (Or.inl (by omega))).trans (h1.v15_0 _ (by omega)))))))))),
    fun p j hp hj0 hj1 => (zset_n (Or.inl (by omega))).trans ((zzero_n (by omega)).trans ((zset_n (Or.inl (by omega))).trans ((congrFun (h3.bc _ (by omega)) _).trans ((zborn_n (by omega)).trans ((zset_n (Or.inl (by omega))).trans ((congrFun (h2.bc _ (by omega)) _).trans ((zborn_n (by omega)).trans ((zset_n (Or.inl (by omega))).trans (h1.a3 _ j (by omega) hj0 hj1))))))))),
    fun p j hp hj0 hj1 => (zset_n (Or.inl (by omega))).trans ((zzero_n (by omega)).trans ((zset_n (Or.inl (by omega))).trans ((congrFun (h3.bc _ (by omega)) _).trans ((zborn_n (by omega)).trans ((zset_n (Or.inl (by omega))).trans ((congrFun (h2.bc _ (by omega)) _).trans ((zborn_n (by omega)).trans ((zset_n (Or.inl (by omega))).trans (h1.a5 _ j (by omega) hj0 hj1))))))))),
    fun p j hp hj0 hj1 => (zset_n (Or.inl (by omega))).trans ((zzero_n (by omega)).trans ((zset_n (Or.inl (by omega))).trans ((congrFun (h3.bc _ (by omega)) _).trans ((zborn_n (by omega)).trans ((zset_n (Or.inl (by omega))).trans ((congrFun (h2.bc _ (by omega)) _).trans ((zborn_n (by omega)).trans ((zset_n (Or.inl (by omega))).trans (h1.a14 _ j (by omega) hj0 hj1))))))))),
    fun p j hp => (zset_n (Or.inl (by omega))).trans ((zzero_n (by omega)).trans ((zset_n (Or.inl (by omega))).trans ((congrFun (h3.bc _ (by omega)) _).trans ((zborn_n (by omega)).trans ((zset_n (Or.inl (by omega))).trans ((congrFun (h2.bc _ (by omega)) _).trans ((zborn_n (by omega)).trans ((zset_n (Or.inl (by omega))).trans ((congrFun (h1.bc _ (by omega)) _).trans ((zborn_n (by omega)).trans ((zset_n (Or.inl (by omega))).trans ((zset_n (Or.inl (by omega))).trans (zzero_s' (by omega)))))))))))))),
    fun p hp => (zset_n (Or.inr (by decide))).trans ((zzero_n (by omega)).trans ((zset_n (Or.inr (by decide))).trans ((congrFun (h3.bc _ (by omega)) _).trans ((zborn_n (by omega)).trans ((zset_n (Or.inr (by decide))).trans ((congrFun (h2.bc _ (by omega)) _).trans ((zborn_n (by omega)).trans ((zset_n (Or.inr (by decide))).trans ((congrFun (h1.bc _ (by omega)) _).trans ((zborn_n (by omega)).trans ((zset_n (Or.inr (by decide))).trans ((zset_n (Or.inr (by decide))).trans ((zzero_n (by omega)).trans (rfl)))))))))))))),
    fun p hp => (zset_n (Or.inr (by decide))).trans ((zzero_n (by omega)).trans ((zset_n (Or.inr (by decide))).trans ((congrFun (h3.bc _ (by omega)) _).trans ((zborn_n (by omega)).trans ((zset_n (Or.inr (by decide))).trans ((congrFun (h2.bc _ (by omega)) _).trans ((zborn_n (by omega)).trans ((zset_n (Or.inr (by decide))).trans ((congrFun (h1.bc _ (by omega)) _).trans ((zborn_n (by omega)).trans ((zset_n (Or.inr (by decide))).trans ((zset_n (Or.inr (by decide))).trans ((zzero_n (by omega)).trans (rfl)))))))))))))),
    fun p hp => (zset_n (Or.inr (by decide))).trans ((zzero_n (by omega)).trans ((zset_n (Or.inr (by decide))).trans ((congrFun (h3.bc _ (by omega)) _).trans ((zborn_n (by omega)).trans ((zset_n (Or.inr (by decide))).trans ((congrFun (h2.bc _ (by omega)) _).trans ((zborn_n (by omega)).trans ((zset_n (Or.inr (by decide))).trans ((congrFun (h1.bc _ (by omega)) _).trans ((zborn_n (by omega)).trans ((zset_n (Or.inr (by decide))).trans ((zset_n (Or.inr (by decide))).trans ((zzero_n (by omega)).trans (rfl)))))))))))))),
    fun p hp => (zset_n (Or.inr (by decide))).trans ((zzero_n (by omega)).trans ((zset_n (Or.inr (by decide))).trans ((congrFun (h3.bc _ (by omega)) _).trans ((zborn_n (by omega)).trans ((zset_n (Or.inr (by decide))).trans ((congrFun (h2.bc _ (by omega)) _).trans ((zborn_n (by omega)).trans ((zset_n (Or.inr (by decide))).trans ((congrFun (h1.bc _ (by omega)) _).trans ((zborn_n (by omega)).trans ((zset_n (Or.inr (by decide))).trans ((zset_n (Or.inr (by decide))).trans ((zzero_n (by omega)).trans (rfl)))))))))))))),
    trivial⟩
def NwX11b (lay l : zLay) (C c : zMem) (o : Int) : Prop := (∀ p, p < o + 273 → l p = lay p) ∧ (∀ p, p < o + 273 → p ≠ o → c p = C p) ∧ (∀ p, p = o + 273 → l p = (1, 2)) ∧ (∀ p, p = o + 274 → l p = (11, 6)) ∧ (∀ p, p = o + 275 → l p = (100, 0)) ∧ (∀ p, p = o + 276 → l p = (2, 15)) ∧ (∀ p, p = o + 277 → l p = (100, 7)) ∧ (∀ p, p = o + 278 → l p = (100, 7)) ∧ (∀ p, p = o + 279 → l p = (100, 8)) ∧ (∀ p, p = o + 280 → l p = (10, 7)) ∧ (∀ p, p = o + 281 → l p = (100, 25)) ∧ (∀ p, p = o + 282 → l p = (100, 5)) ∧ (∀ p, p = o + 283 → l p = (100, 5)) ∧ (∀ p, p = o + 284 → l p = (7, 7)) ∧ (∀ p, p = o + 285 → l p = (100, 8)) ∧ (∀ p, p = o + 286 → l p = (100, 8)) ∧ (∀ p, p = o + 287 → l p = (100, 8)) ∧ (∀ p, p = o + 288 → l p = (100, 8)) ∧ (∀ p, p = o + 289 → l p = (100, 8)) ∧ (∀ p, p = o + 290 → l p = (100, 12)) ∧ (∀ p, p = o + 291 → l p = (6, 2)) ∧ (∀ p, p = o + 292 → l p = (100, 300)) ∧ (∀ p, p = o + 293 → l p = (100, 10)) ∧ (∀ p, p = o + 294 → l p = (5, 2)) ∧ (∀ p, p = o + 295 → l p = (11, 6)) ∧ (∀ p, p = o + 296 → l p = (100, 0)) ∧ (∀ p, p = o + 297 → l p = (4, 7)) ∧ (∀ p, p = o + 298 → l p = (100, 12)) ∧ (∀ p, p = o + 299 → l p = (100, 12)) ∧ (∀ p, p = o + 300 → l p = (100, 12)) ∧ (∀ p, p = o + 301 → l p = (100, 0)) ∧ (∀ p, p = o + 302 → l p = (100, 24)) ∧ (∀ p, p = o + 303 → l p = (3, 3)) ∧ (∀ p, p = o + 304 → l p = (100, 12)) ∧ (∀ p, p = o + 305 → l p = (100, 5)) ∧ (∀ p, p = o + 306 → l p = (100, 5)) ∧ (∀ p, p = o + 307 → l p = (9, 4)) ∧ (∀ p, p = o + 308 → l p = (100, 8)) ∧ (∀ p, p = o + 309 → l p = (100, 8)) ∧ (∀ p, p = o + 310 → l p = (8, 4)) ∧ (∀ p, p = o + 311 → l p = (100, 3328)) ∧ (∀ p, p = o + 312 → l p = (100, 96)) ∧ (∀ p, p = o + 274 → c p 1 = o + 275) ∧ (∀ p, p = o + 273 → c p 0 = o + 274) ∧ (∀ p, p = o + 276 → c p 2 = o + 277) ∧ (∀ p, p = o + 276 → c p 3 = o + 278) ∧ (∀ p, p = o + 276 → c p 6 = o + 279) ∧ (∀ p, p = o + 280 → c p 4 = o + 281) ∧ (∀ p, p = o + 280 → c p 5 = o + 282) ∧ (∀ p, p = o + 280 → c p 6 = o + 283) ∧ (∀ p, p = o + 276 → c p 11 = o + 280) ∧ (∀ p, p = o + 284 → c p 1 = o + 285) ∧ (∀ p, p = o + 284 → c p 2 = o + 286) ∧ (∀ p, p = o + 284 → c p 3 = o + 287) ∧ (∀ p, p = o + 284 → c p 4 = o + 288) ∧ (∀ p, p = o + 284 → c p 5 = o + 289) ∧ (∀ p, p = o + 284 → c p 6 = o + 290) ∧ (∀ p, p = o + 276 → c p 12 = o + 284) ∧ (∀ p, p = o + 291 → c p 1 = o + 292) ∧ (∀ p, p = o + 276 → c p 13 = o + 291) ∧ (∀ p, p = o + 276 → c p 14 = o + 293) ∧ (∀ p, p = o + 273 → c p 1 = o + 276) ∧ (∀ p, p = o + 0 → c p 10 = o + 273) ∧ (∀ p, p = o + 295 → c p 1 = o + 296) ∧ (∀ p, p = o + 294 → c p 0 = o + 295) ∧ (∀ p, p = o + 294 → c p 1 = o + 297) ∧ (∀ p, p = o + 0 → c p 11 = o + 294) ∧ (∀ p, p = o + 303 → c p 0 = o + 304) ∧ (∀ p, p = o + 303 → c p 1 = o + 305) ∧ (∀ p, p = o + 303 → c p 2 = o + 306) ∧ (∀ p, p = o + 0 → c p 12 = o + 303) ∧ (∀ p, p = o + 307 → c p 1 = o + 308) ∧ (∀ p, p = o + 307 → c p 3 = o + 309) ∧ (∀ p, p = o + 0 → c p 13 = o + 307) ∧ (∀ p, p = o + 310 → c p 0 = o + 311) ∧ (∀ p, p = o + 310 → c p 1 = o + 312) ∧ (∀ p, p = o + 0 → c p 14 = o + 310) ∧ (∀ p, p = o → c p 0 = C p 0) ∧ (∀ p, p = o → c p 1 = C p 1) ∧ (∀ p, p = o → c p 2 = C p 2) ∧ (∀ p, p = o → c p 3 = C p 3) ∧ (∀ p, p = o → c p 4 = C p 4) ∧ (∀ p, p = o → c p 5 = C p 5) ∧ (∀ p, p = o → c p 6 = C p 6) ∧ (∀ p, p = o → c p 7 = C p 7) ∧ (∀ p, p = o → c p 8 = C p 8) ∧ (∀ p, p = o → c p 9 = C p 9) ∧ (True)
theorem NwX11b.bl {lay l : zLay} {C c : zMem} {o : Int} (h : NwX11b lay l C c o) : ∀ p, p < o + 273 → l p = lay p := h.1
theorem NwX11b.bc {lay l : zLay} {C c : zMem} {o : Int} (h : NwX11b lay l C c o) : ∀ p, p < o + 273 → p ≠ o → c p = C p := h.2.1
theorem NwX11b.l273 {lay l : zLay} {C c : zMem} {o : Int} (h : NwX11b lay l C c o) : ∀ p, p = o + 273 → l p = (1, 2) := h.2.2.1
theorem NwX11b.l274 {lay l : zLay} {C c : zMem} {o : Int} (h : NwX11b lay l C c o) : ∀ p, p = o + 274 → l p = (11, 6) := h.2.2.2.1
theorem NwX11b.l275 {lay l : zLay} {C c : zMem} {o : Int} (h : NwX11b lay l C c o) : ∀ p, p = o + 275 → l p = (100, 0) := h.2.2.2.2.1
theorem NwX11b.l276 {lay l : zLay} {C c : zMem} {o : Int} (h : NwX11b lay l C c o) : ∀ p, p = o + 276 → l p = (2, 15) := h.2.2.2.2.2.1
theorem NwX11b.l277 {lay l : zLay} {C c : zMem} {o : Int} (h : NwX11b lay l C c o) : ∀ p, p = o + 277 → l p = (100, 7) := h.2.2.2.2.2.2.1
theorem NwX11b.l278 {lay l : zLay} {C c : zMem} {o : Int} (h : NwX11b lay l C c o) : ∀ p, p = o + 278 → l p = (100, 7) := h.2.2.2.2.2.2.2.1
theorem NwX11b.l279 {lay l : zLay} {C c : zMem} {o : Int} (h : NwX11b lay l C c o) : ∀ p, p = o + 279 → l p = (100, 8) := h.2.2.2.2.2.2.2.2.1
theorem NwX11b.l280 {lay l : zLay} {C c : zMem} {o : Int} (h : NwX11b lay l C c o) : ∀ p, p = o + 280 → l p = (10, 7) := h.2.2.2.2.2.2.2.2.2.1
theorem NwX11b.l281 {lay l : zLay} {C c : zMem} {o : Int} (h : NwX11b lay l C c o) : ∀ p, p = o + 281 → l p = (100, 25) := h.2.2.2.2.2.2.2.2.2.2.1
theorem NwX11b.l282 {lay l : zLay} {C c : zMem} {o : Int} (h : NwX11b lay l C c o) : ∀ p, p = o + 282 → l p = (100, 5) := h.2.2.2.2.2.2.2.2.2.2.2.1
theorem NwX11b.l283 {lay l : zLay} {C c : zMem} {o : Int} (h : NwX11b lay l C c o) : ∀ p, p = o + 283 → l p = (100, 5) := h.2.2.2.2.2.2.2.2.2.2.2.2.1
theorem NwX11b.l284 {lay l : zLay} {C c : zMem} {o : Int} (h : NwX11b lay l C c o) : ∀ p, p = o + 284 → l p = (7, 7) := h.2.2.2.2.2.2.2.2.2.2.2.2.2.1
theorem NwX11b.l285 {lay l : zLay} {C c : zMem} {o : Int} (h : NwX11b lay l C c o) : ∀ p, p = o + 285 → l p = (100, 8) := h.2.2.2.2.2.2.2.2.2.2.2.2.2.2.1
theorem NwX11b.l286 {lay l : zLay} {C c : zMem} {o : Int} (h : NwX11b lay l C c o) : ∀ p, p = o + 286 → l p = (100, 8) := h.2.2.2.2.2.2.2.2.2.2.2.2.2.2.2.1
theorem NwX11b.l287 {lay l : zLay} {C c : zMem} {o : Int} (h : NwX11b lay l C c o) : ∀ p, p = o + 287 → l p = (100, 8) := h.2.2.2.2.2.2.2.2.2.2.2.2.2.2.2.2.1
theorem NwX11b.l288 {lay l : zLay} {C c : zMem} {o : Int} (h : NwX11b lay l C c o) : ∀ p, p = o + 288 → l p = (100, 8) := h.2.2.2.2.2.2.2.2.2.2.2.2.2.2.2.2.2.1
theorem NwX11b.l289 {lay l : zLay} {C c : zMem} {o : Int} (h : NwX11b lay l C c o) : ∀ p, p = o + 289 → l p = (100, 8) := h.2.2.2.2.2.2.2.2.2.2.2.2.2.2.2.2.2.2.1
theorem NwX11b.l290 {lay l : zLay} {C c : zMem} {o : Int} (h : NwX11b lay l C c o) : ∀ p, p = o + 290 → l p = (100, 12) := h.2.2.2.2.2.2.2.2.2.2.2.2.2.2.2.2.2.2.2.1
theorem NwX11b.l291 {lay l : zLay} {C c : zMem} {o : Int} (h : NwX11b lay l C c o) : ∀ p, p = o + 291 → l p = (6, 2) := h.2.2.2.2.2.2.2.2.2.2.2.2.2.2.2.2.2.2.2.2.1
theorem NwX11b.l292 {lay l : zLay} {C c : zMem} {o : Int} (h : NwX11b lay l C c o) : ∀ p, p = o + 292 → l p = (100, 300) := h.2.2.2.2.2.2.2.2.2.2.2.2.2.2.2.2.2.2.2.2.2.1
theorem NwX11b.l293 {lay l : zLay} {C c : zMem} {o : Int} (h : NwX11b lay l C c o) : ∀ p, p = o + 293 → l p = (100, 10) := h.2.2.2.2.2.2.2.2.2.2.2.2.2.2.2.2.2.2.2.2.2.2.1
theorem NwX11b.l294 {lay l : zLay} {C c : zMem} {o : Int} (h : NwX11b lay l C c o) : ∀ p, p = o + 294 → l p = (5, 2) := h.2.2.2.2.2.2.2.2.2.2.2.2.2.2.2.2.2.2.2.2.2.2.2.1
theorem NwX11b.l295 {lay l : zLay} {C c : zMem} {o : Int} (h : NwX11b lay l C c o) : ∀ p, p = o + 295 → l p = (11, 6) := h.2.2.2.2.2.2.2.2.2.2.2.2.2.2.2.2.2.2.2.2.2.2.2.2.1
theorem NwX11b.l296 {lay l : zLay} {C c : zMem} {o : Int} (h : NwX11b lay l C c o) : ∀ p, p = o + 296 → l p = (100, 0) := h.2.2.2.2.2.2.2.2.2.2.2.2.2.2.2.2.2.2.2.2.2.2.2.2.2.1
theorem NwX11b.l297 {lay l : zLay} {C c : zMem} {o : Int} (h : NwX11b lay l C c o) : ∀ p, p = o + 297 → l p = (4, 7) := h.2.2.2.2.2.2.2.2.2.2.2.2.2.2.2.2.2.2.2.2.2.2.2.2.2.2.1
theorem NwX11b.l298 {lay l : zLay} {C c : zMem} {o : Int} (h : NwX11b lay l C c o) : ∀ p, p = o + 298 → l p = (100, 12) := h.2.2.2.2.2.2.2.2.2.2.2.2.2.2.2.2.2.2.2.2.2.2.2.2.2.2.2.1
theorem NwX11b.l299 {lay l : zLay} {C c : zMem} {o : Int} (h : NwX11b lay l C c o) : ∀ p, p = o + 299 → l p = (100, 12) := h.2.2.2.2.2.2.2.2.2.2.2.2.2.2.2.2.2.2.2.2.2.2.2.2.2.2.2.2.1
theorem NwX11b.l300 {lay l : zLay} {C c : zMem} {o : Int} (h : NwX11b lay l C c o) : ∀ p, p = o + 300 → l p = (100, 12) := h.2.2.2.2.2.2.2.2.2.2.2.2.2.2.2.2.2.2.2.2.2.2.2.2.2.2.2.2.2.1
theorem NwX11b.l301 {lay l : zLay} {C c : zMem} {o : Int} (h : NwX11b lay l C c o) : ∀ p, p = o + 301 → l p = (100, 0) := h.2.2.2.2.2.2.2.2.2.2.2.2.2.2.2.2.2.2.2.2.2.2.2.2.2.2.2.2.2.2.1
theorem NwX11b.l302 {lay l : zLay} {C c : zMem} {o : Int} (h : NwX11b lay l C c o) : ∀ p, p = o + 302 → l p = (100, 24) := h.2.2.2.2.2.2.2.2.2.2.2.2.2.2.2.2.2.2.2.2.2.2.2.2.2.2.2.2.2.2.2.1
theorem NwX11b.l303 {lay l : zLay} {C c : zMem} {o : Int} (h : NwX11b lay l C c o) : ∀ p, p = o + 303 → l p = (3, 3) := h.2.2.2.2.2.2.2.2.2.2.2.2.2.2.2.2.2.2.2.2.2.2.2.2.2.2.2.2.2.2.2.2.1
theorem NwX11b.l304 {lay l : zLay} {C c : zMem} {o : Int} (h : NwX11b lay l C c o) : ∀ p, p = o + 304 → l p = (100, 12) := h.2.2.2.2.2.2.2.2.2.2.2.2.2.2.2.2.2.2.2.2.2.2.2.2.2.2.2.2.2.2.2.2.2.1
theorem NwX11b.l305 {lay l : zLay} {C c : zMem} {o : Int} (h : NwX11b lay l C c o) : ∀ p, p = o + 305 → l p = (100, 5) := h.2.2.2.2.2.2.2.2.2.2.2.2.2.2.2.2.2.2.2.2.2.2.2.2.2.2.2.2.2.2.2.2.2.2.1
theorem NwX11b.l306 {lay l : zLay} {C c : zMem} {o : Int} (h : NwX11b lay l C c o) : ∀ p, p = o + 306 → l p = (100, 5) := h.2.2.2.2.2.2.2.2.2.2.2.2.2.2.2.2.2.2.2.2.2.2.2.2.2.2.2.2.2.2.2.2.2.2.2.1
theorem NwX11b.l307 {lay l : zLay} {C c : zMem} {o : Int} (h : NwX11b lay l C c o) : ∀ p, p = o + 307 → l p = (9, 4) := h.2.2.2.2.2.2.2.2.2.2.2.2.2.2.2.2.2.2.2.2.2.2.2.2.2.2.2.2.2.2.2.2.2.2.2.2.1
theorem NwX11b.l308 {lay l : zLay} {C c : zMem} {o : Int} (h : NwX11b lay l C c o) : ∀ p, p = o + 308 → l p = (100, 8) := h.2.2.2.2.2.2.2.2.2.2.2.2.2.2.2.2.2.2.2.2.2.2.2.2.2.2.2.2.2.2.2.2.2.2.2.2.2.1
theorem NwX11b.l309 {lay l : zLay} {C c : zMem} {o : Int} (h : NwX11b lay l C c o) : ∀ p, p = o + 309 → l p = (100, 8) := h.2.2.2.2.2.2.2.2.2.2.2.2.2.2.2.2.2.2.2.2.2.2.2.2.2.2.2.2.2.2.2.2.2.2.2.2.2.2.1
theorem NwX11b.l310 {lay l : zLay} {C c : zMem} {o : Int} (h : NwX11b lay l C c o) : ∀ p, p = o + 310 → l p = (8, 4) := h.2.2.2.2.2.2.2.2.2.2.2.2.2.2.2.2.2.2.2.2.2.2.2.2.2.2.2.2.2.2.2.2.2.2.2.2.2.2.2.1
theorem NwX11b.l311 {lay l : zLay} {C c : zMem} {o : Int} (h : NwX11b lay l C c o) : ∀ p, p = o + 311 → l p = (100, 3328) := h.2.2.2.2.2.2.2.2.2.2.2.2.2.2.2.2.2.2.2.2.2.2.2.2.2.2.2.2.2.2.2.2.2.2.2.2.2.2.2.2.1
theorem NwX11b.l312 {lay l : zLay} {C c : zMem} {o : Int} (h : NwX11b lay l C c o) : ∀ p, p = o + 312 → l p = (100, 96) := h.2.2.2.2.2.2.2.2.2.2.2.2.2.2.2.2.2.2.2.2.2.2.2.2.2.2.2.2.2.2.2.2.2.2.2.2.2.2.2.2.2.1
theorem NwX11b.r274_1 {lay l : zLay} {C c : zMem} {o : Int} (h : NwX11b lay l C c o) : ∀ p, p = o + 274 → c p 1 = o + 275 := h.2.2.2.2.2.2.2.2.2.2.2.2.2.2.2.2.2.2.2.2.2.2.2.2.2.2.2.2.2.2.2.2.2.2.2.2.2.2.2.2.2.2.1
theorem NwX11b.r273_0 {lay l : zLay} {C c : zMem} {o : Int} (h : NwX11b lay l C c o) : ∀ p, p = o + 273 → c p 0 = o + 274 := h.2.2.2.2.2.2.2.2.2.2.2.2.2.2.2.2.2.2.2.2.2.2.2.2.2.2.2.2.2.2.2.2.2.2.2.2.2.2.2.2.2.2.2.1
theorem NwX11b.r276_2 {lay l : zLay} {C c : zMem} {o : Int} (h : NwX11b lay l C c o) : ∀ p, p = o + 276 → c p 2 = o + 277 := h.2.2.2.2.2.2.2.2.2.2.2.2.2.2.2.2.2.2.2.2.2.2.2.2.2.2.2.2.2.2.2.2.2.2.2.2.2.2.2.2.2.2.2.2.1
theorem NwX11b.r276_3 {lay l : zLay} {C c : zMem} {o : Int} (h : NwX11b lay l C c o) : ∀ p, p = o + 276 → c p 3 = o + 278 := h.2.2.2.2.2.2.2.2.2.2.2.2.2.2.2.2.2.2.2.2.2.2.2.2.2.2.2.2.2.2.2.2.2.2.2.2.2.2.2.2.2.2.2.2.2.1
theorem NwX11b.r276_6 {lay l : zLay} {C c : zMem} {o : Int} (h : NwX11b lay l C c o) : ∀ p, p = o + 276 → c p 6 = o + 279 := h.2.2.2.2.2.2.2.2.2.2.2.2.2.2.2.2.2.2.2.2.2.2.2.2.2.2.2.2.2.2.2.2.2.2.2.2.2.2.2.2.2.2.2.2.2.2.1
theorem NwX11b.r280_4 {lay l : zLay} {C c : zMem} {o : Int} (h : NwX11b lay l C c o) : ∀ p, p = o + 280 → c p 4 = o + 281 := h.2.2.2.2.2.2.2.2.2.2.2.2.2.2.2.2.2.2.2.2.2.2.2.2.2.2.2.2.2.2.2.2.2.2.2.2.2.2.2.2.2.2.2.2.2.2.2.1
theorem NwX11b.r280_5 {lay l : zLay} {C c : zMem} {o : Int} (h : NwX11b lay l C c o) : ∀ p, p = o + 280 → c p 5 = o + 282 := h.2.2.2.2.2.2.2.2.2.2.2.2.2.2.2.2.2.2.2.2.2.2.2.2.2.2.2.2.2.2.2.2.2.2.2.2.2.2.2.2.2.2.2.2.2.2.2.2.1
theorem NwX11b.r280_6 {lay l : zLay} {C c : zMem} {o : Int} (h : NwX11b lay l C c o) : ∀ p, p = o + 280 → c p 6 = o + 283 := h.2.2.2.2.2.2.2.2.2.2.2.2.2.2.2.2.2.2.2.2.2.2.2.2.2.2.2.2.2.2.2.2.2.2.2.2.2.2.2.2.2.2.2.2.2.2.2.2.2.1
theorem NwX11b.r276_11 {lay l : zLay} {C c : zMem} {o : Int} (h : NwX11b lay l C c o) : ∀ p, p = o + 276 → c p 11 = o + 280 := h.2.2.2.2.2.2.2.2.2.2.2.2.2.2.2.2.2.2.2.2.2.2.2.2.2.2.2.2.2.2.2.2.2.2.2.2.2.2.2.2.2.2.2.2.2.2.2.2.2.2.1
theorem NwX11b.r284_1 {lay l : zLay} {C c : zMem} {o : Int} (h : NwX11b lay l C c o) : ∀ p, p = o + 284 → c p 1 = o + 285 := h.2.2.2.2.2.2.2.2.2.2.2.2.2.2.2.2.2.2.2.2.2.2.2.2.2.2.2.2.2.2.2.2.2.2.2.2.2.2.2.2.2.2.2.2.2.2.2.2.2.2.2.1
theorem NwX11b.r284_2 {lay l : zLay} {C c : zMem} {o : Int} (h : NwX11b lay l C c o) : ∀ p, p = o + 284 → c p 2 = o + 286 := h.2.2.2.2.2.2.2.2.2.2.2.2.2.2.2.2.2.2.2.2.2.2.2.2.2.2.2.2.2.2.2.2.2.2.2.2.2.2.2.2.2.2.2.2.2.2.2.2.2.2.2.2.1
theorem NwX11b.r284_3 {lay l : zLay} {C c : zMem} {o : Int} (h : NwX11b lay l C c o) : ∀ p, p = o + 284 → c p 3 = o + 287 := h.2.2.2.2.2.2.2.2.2.2.2.2.2.2.2.2.2.2.2.2.2.2.2.2.2.2.2.2.2.2.2.2.2.2.2.2.2.2.2.2.2.2.2.2.2.2.2.2.2.2.2.2.2.1
theorem NwX11b.r284_4 {lay l : zLay} {C c : zMem} {o : Int} (h : NwX11b lay l C c o) : ∀ p, p = o + 284 → c p 4 = o + 288 := h.2.2.2.2.2.2.2.2.2.2.2.2.2.2.2.2.2.2.2.2.2.2.2.2.2.2.2.2.2.2.2.2.2.2.2.2.2.2.2.2.2.2.2.2.2.2.2.2.2.2.2.2.2.2.1
theorem NwX11b.r284_5 {lay l : zLay} {C c : zMem} {o : Int} (h : NwX11b lay l C c o) : ∀ p, p = o + 284 → c p 5 = o + 289 := h.2.2.2.2.2.2.2.2.2.2.2.2.2.2.2.2.2.2.2.2.2.2.2.2.2.2.2.2.2.2.2.2.2.2.2.2.2.2.2.2.2.2.2.2.2.2.2.2.2.2.2.2.2.2.2.1
theorem NwX11b.r284_6 {lay l : zLay} {C c : zMem} {o : Int} (h : NwX11b lay l C c o) : ∀ p, p = o + 284 → c p 6 = o + 290 := h.2.2.2.2.2.2.2.2.2.2.2.2.2.2.2.2.2.2.2.2.2.2.2.2.2.2.2.2.2.2.2.2.2.2.2.2.2.2.2.2.2.2.2.2.2.2.2.2.2.2.2.2.2.2.2.2.1
theorem NwX11b.r276_12 {lay l : zLay} {C c : zMem} {o : Int} (h : NwX11b lay l C c o) : ∀ p, p = o + 276 → c p 12 = o + 284 := h.2.2.2.2.2.2.2.2.2.2.2.2.2.2.2.2.2.2.2.2.2.2.2.2.2.2.2.2.2.2.2.2.2.2.2.2.2.2.2.2.2.2.2.2.2.2.2.2.2.2.2.2.2.2.2.2.2.1
theorem NwX11b.r291_1 {lay l : zLay} {C c : zMem} {o : Int} (h : NwX11b lay l C c o) : ∀ p, p = o + 291 → c p 1 = o + 292 := h.2.2.2.2.2.2.2.2.2.2.2.2.2.2.2.2.2.2.2.2.2.2.2.2.2.2.2.2.2.2.2.2.2.2.2.2.2.2.2.2.2.2.2.2.2.2.2.2.2.2.2.2.2.2.2.2.2.2.1
theorem NwX11b.r276_13 {lay l : zLay} {C c : zMem} {o : Int} (h : NwX11b lay l C c o) : ∀ p, p = o + 276 → c p 13 = o + 291 := h.2.2.2.2.2.2.2.2.2.2.2.2.2.2.2.2.2.2.2.2.2.2.2.2.2.2.2.2.2.2.2.2.2.2.2.2.2.2.2.2.2.2.2.2.2.2.2.2.2.2.2.2.2.2.2.2.2.2.2.1
theorem NwX11b.r276_14 {lay l : zLay} {C c : zMem} {o : Int} (h : NwX11b lay l C c o) : ∀ p, p = o + 276 → c p 14 = o + 293 := h.2.2.2.2.2.2.2.2.2.2.2.2.2.2.2.2.2.2.2.2.2.2.2.2.2.2.2.2.2.2.2.2.2.2.2.2.2.2.2.2.2.2.2.2.2.2.2.2.2.2.2.2.2.2.2.2.2.2.2.2.1
theorem NwX11b.r273_1 {lay l : zLay} {C c : zMem} {o : Int} (h : NwX11b lay l C c o) : ∀ p, p = o + 273 → c p 1 = o + 276 := h.2.2.2.2.2.2.2.2.2.2.2.2.2.2.2.2.2.2.2.2.2.2.2.2.2.2.2.2.2.2.2.2.2.2.2.2.2.2.2.2.2.2.2.2.2.2.2.2.2.2.2.2.2.2.2.2.2.2.2.2.2.1
theorem NwX11b.r0_10 {lay l : zLay} {C c : zMem} {o : Int} (h : NwX11b lay l C c o) : ∀ p, p = o + 0 → c p 10 = o + 273 := h.2.2.2.2.2.2.2.2.2.2.2.2.2.2.2.2.2.2.2.2.2.2.2.2.2.2.2.2.2.2.2.2.2.2.2.2.2.2.2.2.2.2.2.2.2.2.2.2.2.2.2.2.2.2.2.2.2.2.2.2.2.2.1
theorem NwX11b.r295_1 {lay l : zLay} {C c : zMem} {o : Int} (h : NwX11b lay l C c o) : ∀ p, p = o + 295 → c p 1 = o + 296 := h.2.2.2.2.2.2.2.2.2.2.2.2.2.2.2.2.2.2.2.2.2.2.2.2.2.2.2.2.2.2.2.2.2.2.2.2.2.2.2.2.2.2.2.2.2.2.2.2.2.2.2.2.2.2.2.2.2.2.2.2.2.2.2.1
theorem NwX11b.r294_0 {lay l : zLay} {C c : zMem} {o : Int} (h : NwX11b lay l C c o) : ∀ p, p = o + 294 → c p 0 = o + 295 := h.2.2.2.2.2.2.2.2.2.2.2.2.2.2.2.2.2.2.2.2.2.2.2.2.2.2.2.2.2.2.2.2.2.2.2.2.2.2.2.2.2.2.2.2.2.2.2.2.2.2.2.2.2.2.2.2.2.2.2.2.2.2.2.2.1
theorem NwX11b.r294_1 {lay l : zLay} {C c : zMem} {o : Int} (h : NwX11b lay l C c o) : ∀ p, p = o + 294 → c p 1 = o + 297 := h.2.2.2.2.2.2.2.2.2.2.2.2.2.2.2.2.2.2.2.2.2.2.2.2.2.2.2.2.2.2.2.2.2.2.2.2.2.2.2.2.2.2.2.2.2.2.2.2.2.2.2.2.2.2.2.2.2.2.2.2.2.2.2.2.2.1
theorem NwX11b.r0_11 {lay l : zLay} {C c : zMem} {o : Int} (h : NwX11b lay l C c o) : ∀ p, p = o + 0 → c p 11 = o + 294 := h.2.2.2.2.2.2.2.2.2.2.2.2.2.2.2.2.2.2.2.2.2.2.2.2.2.2.2.2.2.2.2.2.2.2.2.2.2.2.2.2.2.2.2.2.2.2.2.2.2.2.2.2.2.2.2.2.2.2.2.2.2.2.2.2.2.2.1
theorem NwX11b.r303_0 {lay l : zLay} {C c : zMem} {o : Int} (h : NwX11b lay l C c o) : ∀ p, p = o + 303 → c p 0 = o + 304 := h.2.2.2.2.2.2.2.2.2.2.2.2.2.2.2.2.2.2.2.2.2.2.2.2.2.2.2.2.2.2.2.2.2.2.2.2.2.2.2.2.2.2.2.2.2.2.2.2.2.2.2.2.2.2.2.2.2.2.2.2.2.2.2.2.2.2.2.1
theorem NwX11b.r303_1 {lay l : zLay} {C c : zMem} {o : Int} (h : NwX11b lay l C c o) : ∀ p, p = o + 303 → c p 1 = o + 305 := h.2.2.2.2.2.2.2.2.2.2.2.2.2.2.2.2.2.2.2.2.2.2.2.2.2.2.2.2.2.2.2.2.2.2.2.2.2.2.2.2.2.2.2.2.2.2.2.2.2.2.2.2.2.2.2.2.2.2.2.2.2.2.2.2.2.2.2.2.1
theorem NwX11b.r303_2 {lay l : zLay} {C c : zMem} {o : Int} (h : NwX11b lay l C c o) : ∀ p, p = o + 303 → c p 2 = o + 306 := h.2.2.2.2.2.2.2.2.2.2.2.2.2.2.2.2.2.2.2.2.2.2.2.2.2.2.2.2.2.2.2.2.2.2.2.2.2.2.2.2.2.2.2.2.2.2.2.2.2.2.2.2.2.2.2.2.2.2.2.2.2.2.2.2.2.2.2.2.2.1
theorem NwX11b.r0_12 {lay l : zLay} {C c : zMem} {o : Int} (h : NwX11b lay l C c o) : ∀ p, p = o + 0 → c p 12 = o + 303 := h.2.2.2.2.2.2.2.2.2.2.2.2.2.2.2.2.2.2.2.2.2.2.2.2.2.2.2.2.2.2.2.2.2.2.2.2.2.2.2.2.2.2.2.2.2.2.2.2.2.2.2.2.2.2.2.2.2.2.2.2.2.2.2.2.2.2.2.2.2.2.1
theorem NwX11b.r307_1 {lay l : zLay} {C c : zMem} {o : Int} (h : NwX11b lay l C c o) : ∀ p, p = o + 307 → c p 1 = o + 308 := h.2.2.2.2.2.2.2.2.2.2.2.2.2.2.2.2.2.2.2.2.2.2.2.2.2.2.2.2.2.2.2.2.2.2.2.2.2.2.2.2.2.2.2.2.2.2.2.2.2.2.2.2.2.2.2.2.2.2.2.2.2.2.2.2.2.2.2.2.2.2.2.1
theorem NwX11b.r307_3 {lay l : zLay} {C c : zMem} {o : Int} (h : NwX11b lay l C c o) : ∀ p, p = o + 307 → c p 3 = o + 309 := h.2.2.2.2.2.2.2.2.2.2.2.2.2.2.2.2.2.2.2.2.2.2.2.2.2.2.2.2.2.2.2.2.2.2.2.2.2.2.2.2.2.2.2.2.2.2.2.2.2.2.2.2.2.2.2.2.2.2.2.2.2.2.2.2.2.2.2.2.2.2.2.2.1
theorem NwX11b.r0_13 {lay l : zLay} {C c : zMem} {o : Int} (h : NwX11b lay l C c o) : ∀ p, p = o + 0 → c p 13 = o + 307 := h.2.2.2.2.2.2.2.2.2.2.2.2.2.2.2.2.2.2.2.2.2.2.2.2.2.2.2.2.2.2.2.2.2.2.2.2.2.2.2.2.2.2.2.2.2.2.2.2.2.2.2.2.2.2.2.2.2.2.2.2.2.2.2.2.2.2.2.2.2.2.2.2.2.1
theorem NwX11b.r310_0 {lay l : zLay} {C c : zMem} {o : Int} (h : NwX11b lay l C c o) : ∀ p, p = o + 310 → c p 0 = o + 311 := h.2.2.2.2.2.2.2.2.2.2.2.2.2.2.2.2.2.2.2.2.2.2.2.2.2.2.2.2.2.2.2.2.2.2.2.2.2.2.2.2.2.2.2.2.2.2.2.2.2.2.2.2.2.2.2.2.2.2.2.2.2.2.2.2.2.2.2.2.2.2.2.2.2.2.1
theorem NwX11b.r310_1 {lay l : zLay} {C c : zMem} {o : Int} (h : NwX11b lay l C c o) : ∀ p, p = o + 310 → c p 1 = o + 312 := h.2.2.2.2.2.2.2.2.2.2.2.2.2.2.2.2.2.2.2.2.2.2.2.2.2.2.2.2.2.2.2.2.2.2.2.2.2.2.2.2.2.2.2.2.2.2.2.2.2.2.2.2.2.2.2.2.2.2.2.2.2.2.2.2.2.2.2.2.2.2.2.2.2.2.2.1
theorem NwX11b.r0_14 {lay l : zLay} {C c : zMem} {o : Int} (h : NwX11b lay l C c o) : ∀ p, p = o + 0 → c p 14 = o + 310 := h.2.2.2.2.2.2.2.2.2.2.2.2.2.2.2.2.2.2.2.2.2.2.2.2.2.2.2.2.2.2.2.2.2.2.2.2.2.2.2.2.2.2.2.2.2.2.2.2.2.2.2.2.2.2.2.2.2.2.2.2.2.2.2.2.2.2.2.2.2.2.2.2.2.2.2.2.1
theorem NwX11b.d0 {lay l : zLay} {C c : zMem} {o : Int} (h : NwX11b lay l C c o) : ∀ p, p = o → c p 0 = C p 0 := h.2.2.2.2.2.2.2.2.2.2.2.2.2.2.2.2.2.2.2.2.2.2.2.2.2.2.2.2.2.2.2.2.2.2.2.2.2.2.2.2.2.2.2.2.2.2.2.2.2.2.2.2.2.2.2.2.2.2.2.2.2.2.2.2.2.2.2.2.2.2.2.2.2.2.2.2.2.1
theorem NwX11b.d1 {lay l : zLay} {C c : zMem} {o : Int} (h : NwX11b lay l C c o) : ∀ p, p = o → c p 1 = C p 1 := h.2.2.2.2.2.2.2.2.2.2.2.2.2.2.2.2.2.2.2.2.2.2.2.2.2.2.2.2.2.2.2.2.2.2.2.2.2.2.2.2.2.2.2.2.2.2.2.2.2.2.2.2.2.2.2.2.2.2.2.2.2.2.2.2.2.2.2.2.2.2.2.2.2.2.2.2.2.2.1
theorem NwX11b.d2 {lay l : zLay} {C c : zMem} {o : Int} (h : NwX11b lay l C c o) : ∀ p, p = o → c p 2 = C p 2 := h.2.2.2.2.2.2.2.2.2.2.2.2.2.2.2.2.2.2.2.2.2.2.2.2.2.2.2.2.2.2.2.2.2.2.2.2.2.2.2.2.2.2.2.2.2.2.2.2.2.2.2.2.2.2.2.2.2.2.2.2.2.2.2.2.2.2.2.2.2.2.2.2.2.2.2.2.2.2.2.1
theorem NwX11b.d3 {lay l : zLay} {C c : zMem} {o : Int} (h : NwX11b lay l C c o) : ∀ p, p = o → c p 3 = C p 3 := h.2.2.2.2.2.2.2.2.2.2.2.2.2.2.2.2.2.2.2.2.2.2.2.2.2.2.2.2.2.2.2.2.2.2.2.2.2.2.2.2.2.2.2.2.2.2.2.2.2.2.2.2.2.2.2.2.2.2.2.2.2.2.2.2.2.2.2.2.2.2.2.2.2.2.2.2.2.2.2.2.1
theorem NwX11b.d4 {lay l : zLay} {C c : zMem} {o : Int} (h : NwX11b lay l C c o) : ∀ p, p = o → c p 4 = C p 4 := h.2.2.2.2.2.2.2.2.2.2.2.2.2.2.2.2.2.2.2.2.2.2.2.2.2.2.2.2.2.2.2.2.2.2.2.2.2.2.2.2.2.2.2.2.2.2.2.2.2.2.2.2.2.2.2.2.2.2.2.2.2.2.2.2.2.2.2.2.2.2.2.2.2.2.2.2.2.2.2.2.2.1
theorem NwX11b.d5 {lay l : zLay} {C c : zMem} {o : Int} (h : NwX11b lay l C c o) : ∀ p, p = o → c p 5 = C p 5 := h.2.2.2.2.2.2.2.2.2.2.2.2.2.2.2.2.2.2.2.2.2.2.2.2.2.2.2.2.2.2.2.2.2.2.2.2.2.2.2.2.2.2.2.2.2.2.2.2.2.2.2.2.2.2.2.2.2.2.2.2.2.2.2.2.2.2.2.2.2.2.2.2.2.2.2.2.2.2.2.2.2.2.1
theorem NwX11b.d6 {lay l : zLay} {C c : zMem} {o : Int} (h : NwX11b lay l C c o) : ∀ p, p = o → c p 6 = C p 6 := h.2.2.2.2.2.2.2.2.2.2.2.2.2.2.2.2.2.2.2.2.2.2.2.2.2.2.2.2.2.2.2.2.2.2.2.2.2.2.2.2.2.2.2.2.2.2.2.2.2.2.2.2.2.2.2.2.2.2.2.2.2.2.2.2.2.2.2.2.2.2.2.2.2.2.2.2.2.2.2.2.2.2.2.1
theorem NwX11b.d7 {lay l : zLay} {C c : zMem} {o : Int} (h : NwX11b lay l C c o) : ∀ p, p = o → c p 7 = C p 7 := h.2.2.2.2.2.2.2.2.2.2.2.2.2.2.2.2.2.2.2.2.2.2.2.2.2.2.2.2.2.2.2.2.2.2.2.2.2.2.2.2.2.2.2.2.2.2.2.2.2.2.2.2.2.2.2.2.2.2.2.2.2.2.2.2.2.2.2.2.2.2.2.2.2.2.2.2.2.2.2.2.2.2.2.2.1
theorem NwX11b.d8 {lay l : zLay} {C c : zMem} {o : Int} (h : NwX11b lay l C c o) : ∀ p, p = o → c p 8 = C p 8 := h.2.2.2.2.2.2.2.2.2.2.2.2.2.2.2.2.2.2.2.2.2.2.2.2.2.2.2.2.2.2.2.2.2.2.2.2.2.2.2.2.2.2.2.2.2.2.2.2.2.2.2.2.2.2.2.2.2.2.2.2.2.2.2.2.2.2.2.2.2.2.2.2.2.2.2.2.2.2.2.2.2.2.2.2.2.1
theorem NwX11b.d9 {lay l : zLay} {C c : zMem} {o : Int} (h : NwX11b lay l C c o) : ∀ p, p = o → c p 9 = C p 9 := h.2.2.2.2.2.2.2.2.2.2.2.2.2.2.2.2.2.2.2.2.2.2.2.2.2.2.2.2.2.2.2.2.2.2.2.2.2.2.2.2.2.2.2.2.2.2.2.2.2.2.2.2.2.2.2.2.2.2.2.2.2.2.2.2.2.2.2.2.2.2.2.2.2.2.2.2.2.2.2.2.2.2.2.2.2.2.1
theorem NwX11b.z {lay l : zLay} {C c : zMem} {o : Int} (h : NwX11b lay l C c o) : True := h.2.2.2.2.2.2.2.2.2.2.2.2.2.2.2.2.2.2.2.2.2.2.2.2.2.2.2.2.2.2.2.2.2.2.2.2.2.2.2.2.2.2.2.2.2.2.2.2.2.2.2.2.2.2.2.2.2.2.2.2.2.2.2.2.2.2.2.2.2.2.2.2.2.2.2.2.2.2.2.2.2.2.2.2.2.2.2
theorem n_X11b {G : zG} {Q : zQ} {lay : zLay} {C : zMem} {o : Int} (ho : lay o = (12, 15)) (h0 : 0 ≤ o) (w : ∀ l c, NwX11b lay l C c o → zW G KX11_init 6 Q 142 [zP o, zI 12] [] l c (o + 313) (0, 0)) : zW G KX11_init 6 Q 87 [zP o, zI 12] [] lay C (o + 273) (40, 4406) := by
  have hne : o ≠ -1 := by omega
  have ho' : ∀ p, p = o + 0 → lay p = (12, 15) := fun p hp => by rw [hp, Int.add_zero]; exact ho
  have hnm : KX11_init.1.name = "<init>" ∧ (vwCl[11]?).map (·.1) = some RX11 := ⟨rfl, rfl⟩
  refine z_al0 eX11_init_87 hne ?_
  refine zW.mono (b' := (39 + 1, 4404 + 2)) ⟨by decide, by decide⟩ ?_
  refine z_new (ci := 0) eX11_init_88 rfl rfl nX11_34.1 nX11_34.2.1 nX11_34.2.2 ?_
  refine z_dup eX11_init_91 (Nat.ne_of_beq_eq_false rfl) ?_
  refine zW.mono (b' := (20 + 19, 456 + 3948)) ⟨by decide, by decide⟩ ?_
  refine z_callI (b' := (20, 456)) (b'' := (19, 3948)) (av := []) (st := [zP (o + 273), zP (o)]) eX11_init_92 vX11_36.1 vX11_36.2.1 vX11_36.2.2 (n_X0 (zlay_s' (by omega)) (by omega)) (Nat.le_of_ble_eq_true rfl) (by omega) rfl (Nat.le_of_ble_eq_true rfl) (fun r l1 c1 m1 q => ?_) (fun E9 l9 c9 m9 q => by obtain ⟨q1, q2⟩ := q; cases q1)
  obtain ⟨q1, h1, hm1⟩ := q
  have e9 := Sum.inl.inj q1
  subst e9
  subst hm1
  refine z_pfP (j := 10) lX11_37 eX11_init_95 rfl rfl ((h1.bl _ (by omega)).trans ((zlay_o (by omega)).trans (ho' _ (by omega)))) rfl hnm ?_
  refine z_al0 eX11_init_98 hne ?_
  refine zW.mono (b' := (18 + 1, 3946 + 2)) ⟨by decide, by decide⟩ ?_
  refine z_new (ci := 4) eX11_init_99 rfl rfl nX11_41.1 nX11_41.2.1 nX11_41.2.2 ?_
  refine z_dup eX11_init_102 (Nat.ne_of_beq_eq_false rfl) ?_
  refine zW.mono (b' := (8 + 10, 473 + 3473)) ⟨by decide, by decide⟩ ?_
  refine z_callI (b' := (8, 473)) (b'' := (10, 3473)) (av := []) (st := [zP (o + 273 + 21), zP (o)]) eX11_init_103 vX11_43.1 vX11_43.2.1 vX11_43.2.2 (n_X4 (zlay_s' (by omega)) (by omega)) (Nat.le_of_ble_eq_true rfl) (by omega) rfl (Nat.le_of_ble_eq_true rfl) (fun r l2 c2 m2 q => ?_) (fun E9 l9 c9 m9 q => by obtain ⟨q1, q2⟩ := q; cases q1)
  obtain ⟨q1, h2, hm2⟩ := q
  have e9 := Sum.inl.inj q1
  subst e9
  subst hm2
  refine z_pfP (j := 11) lX11_44 eX11_init_106 rfl rfl ((h2.bl _ (by omega)).trans ((zlay_o (by omega)).trans ((h1.bl _ (by omega)).trans ((zlay_o (by omega)).trans (ho' _ (by omega)))))) rfl hnm ?_
  refine z_al0 eX11_init_109 hne ?_
  refine zW.mono (b' := (9 + 1, 3470 + 3)) ⟨by decide, by decide⟩ ?_
  refine z_new (ci := 2) eX11_init_110 rfl rfl nX11_48.1 nX11_48.2.1 nX11_48.2.2 ?_
  refine z_dup eX11_init_113 (Nat.ne_of_beq_eq_false rfl) ?_
  refine zW.mono (b' := (3 + 6, 22 + 3448)) ⟨by decide, by decide⟩ ?_
  refine z_callI (b' := (3, 22)) (b'' := (6, 3448)) (av := []) (st := [zP (o + 273 + 21 + 9), zP (o)]) eX11_init_114 vX11_50.1 vX11_50.2.1 vX11_50.2.2 (n_X2 (zlay_s' (by omega)) (by omega)) (Nat.le_of_ble_eq_true rfl) (by omega) rfl (Nat.le_of_ble_eq_true rfl) (fun r l3 c3 m3 q => ?_) (fun E9 l9 c9 m9 q => by obtain ⟨q1, q2⟩ := q; cases q1)
  obtain ⟨q1, h3, hm3⟩ := q
  have e9 := Sum.inl.inj q1
  subst e9
  subst hm3
  refine z_pfP (j := 12) lX11_51 eX11_init_117 rfl rfl ((h3.bl _ (by omega)).trans ((zlay_o (by omega)).trans ((h2.bl _ (by omega)).trans ((zlay_o (by omega)).trans ((h1.bl _ (by omega)).trans ((zlay_o (by omega)).trans (ho' _ (by omega)))))))) rfl hnm ?_
  refine z_al0 eX11_init_120 hne ?_
  refine zW.mono (b' := (5 + 1, 3444 + 4)) ⟨by decide, by decide⟩ ?_
  refine z_new (ci := 8) eX11_init_121 rfl rfl nX11_55.1 nX11_55.2.1 nX11_55.2.2 ?_
  refine z_dup eX11_init_124 (Nat.ne_of_beq_eq_false rfl) ?_
  refine zW.mono (b' := (2 + 3, 16 + 3428)) ⟨by decide, by decide⟩ ?_
  refine z_callI (b' := (2, 16)) (b'' := (3, 3428)) (av := []) (st := [zP (o + 273 + 21 + 9 + 4), zP (o)]) eX11_init_125 vX11_57.1 vX11_57.2.1 vX11_57.2.2 (n_X8 (zlay_s' (by omega)) (by omega)) (Nat.le_of_ble_eq_true rfl) (by omega) rfl (Nat.le_of_ble_eq_true rfl) (fun r l4 c4 m4 q => ?_) (fun E9 l9 c9 m9 q => by obtain ⟨q1, q2⟩ := q; cases q1)
  obtain ⟨q1, h4, hm4⟩ := q
  have e9 := Sum.inl.inj q1
  subst e9
  subst hm4
  refine z_pfP (j := 13) lX11_58 eX11_init_128 rfl rfl ((h4.bl _ (by omega)).trans ((zlay_o (by omega)).trans ((h3.bl _ (by omega)).trans ((zlay_o (by omega)).trans ((h2.bl _ (by omega)).trans ((zlay_o (by omega)).trans ((h1.bl _ (by omega)).trans ((zlay_o (by omega)).trans (ho' _ (by omega)))))))))) rfl hnm ?_
  refine z_al0 eX11_init_131 hne ?_
  refine zW.mono (b' := (2 + 1, 3424 + 4)) ⟨by decide, by decide⟩ ?_
  refine z_new (ci := 7) eX11_init_132 rfl rfl nX11_62.1 nX11_62.2.1 nX11_62.2.2 ?_
  refine z_dup eX11_init_135 (Nat.ne_of_beq_eq_false rfl) ?_
  refine zW.mono (b' := (2 + 0, 3424 + 0)) ⟨by decide, by decide⟩ ?_
  refine z_callI (b' := (2, 3424)) (b'' := (0, 0)) (av := []) (st := [zP (o + 273 + 21 + 9 + 4 + 3), zP (o)]) eX11_init_136 vX11_64.1 vX11_64.2.1 vX11_64.2.2 (n_X7 (zlay_s' (by omega)) (by omega)) (Nat.le_of_ble_eq_true rfl) (by omega) rfl (Nat.le_of_ble_eq_true rfl) (fun r l5 c5 m5 q => ?_) (fun E9 l9 c9 m9 q => by obtain ⟨q1, q2⟩ := q; cases q1)
  obtain ⟨q1, h5, hm5⟩ := q
  have e9 := Sum.inl.inj q1
  subst e9
  subst hm5
  refine z_pfP (j := 14) lX11_65 eX11_init_139 rfl rfl ((h5.bl _ (by omega)).trans ((zlay_o (by omega)).trans ((h4.bl _ (by omega)).trans ((zlay_o (by omega)).trans ((h3.bl _ (by omega)).trans ((zlay_o (by omega)).trans ((h2.bl _ (by omega)).trans ((zlay_o (by omega)).trans ((h1.bl _ (by omega)).trans ((zlay_o (by omega)).trans (ho' _ (by omega)))))))))))) rfl hnm ?_
  rw [show o + 273 + 21 + 9 + 4 + 3 + 3 = o + 313 by omega]
  exact w _ _ ⟨fun p hp => (h5.bl _ (by omega)).trans ((zlay_o (by omega)).trans ((h4.bl _ (by omega)).trans ((zlay_o (by omega)).trans ((h3.bl _ (by omega)).trans ((zlay_o (by omega)).trans ((h2.bl _ (by omega)).trans ((zlay_o (by omega)).trans ((h1.bl _ (by omega)).trans ((zlay_o (by omega)).trans (rfl)))))))))),
    fun p hp hpo => (zset_o (by omega)).trans ((h5.bc _ (by omega)).trans ((zborn_o (by omega)).trans ((zset_o (by omega)).trans ((h4.bc _ (by omega)).trans ((zborn_o (by omega)).trans ((zset_o (by omega)).trans ((h3.bc _ (by omega)).trans ((zborn_o (by omega)).trans ((zset_o (by omega)).trans ((h2.bc _ (by omega)).trans ((zborn_o (by omega)).trans ((zset_o (by omega)).trans ((h1.bc _ (by omega)).trans ((zborn_o (by omega)).trans (rfl))))))))))))))),
    fun p hp => (h5.bl _ (by omega)).trans ((zlay_o (by omega)).trans ((h4.bl _ (by omega)).trans ((zlay_o (by omega)).trans ((h3.bl _ (by omega)).trans ((zlay_o (by omega)).trans ((h2.bl _ (by omega)).trans ((zlay_o (by omega)).trans (h1.l0 _ (by omega))))))))),
    fun p hp => (h5.bl _ (by omega)).trans ((zlay_o (by omega)).trans ((h4.bl _ (by omega)).trans ((zlay_o (by omega)).trans ((h3.bl _ (by omega)).trans ((zlay_o (by omega)).trans ((h2.bl _ (by omega)).trans ((zlay_o (by omega)).trans (h1.l1 _ (by omega))))))))),
    fun p hp => (h5.bl _ (by omega)).trans ((zlay_o (by omega)).trans ((h4.bl _ (by omega)).trans ((zlay_o (by omega)).trans ((h3.bl _ (by omega)).trans ((zlay_o (by omega)).trans ((h2.bl _ (by omega)).trans ((zlay_o (by omega)).trans (h1.l2 _ (by omega))))))))),
    fun p hp => (h5.bl _ (by omega)).trans ((zlay_o (by omega)).trans ((h4.bl _ (by omega)).trans ((zlay_o (by omega)).trans ((h3.bl _ (by omega)).trans ((zlay_o (by omega)).trans ((h2.bl _ (by omega)).trans ((zlay_o (by omega)).trans (h1.l3 _ (by omega))))))))),
    fun p hp => (h5.bl _ (by omega)).trans ((zlay_o (by omega)).trans ((h4.bl _ (by omega)).trans ((zlay_o (by omega)).trans ((h3.bl _ (by omega)).trans ((zlay_o (by omega)).trans ((h2.bl _ (by omega)).trans ((zlay_o (by omega)).trans (h1.l4 _ (by omega))))))))),
    fun p hp => (h5.bl _ (by omega)).trans ((zlay_o (by omega)).trans ((h4.bl _ (by omega)).trans ((zlay_o (by omega)).trans ((h3.bl _ (by omega)).trans ((zlay_o (by omega)).trans ((h2.bl _ (by omega)).trans ((zlay_o (by omega)).trans (h1.l5 _ (by omega))))))))),
    fun p hp => (h5.bl _ (by omega)).trans ((zlay_o (by omega)).trans ((h4.bl _ (by omega)).trans ((zlay_o (by omega)).trans ((h3.bl _ (by omega)).trans ((zlay_o (by omega)).trans ((h2.bl _ (by omega)).trans ((zlay_o (by omega)).trans (h1.l6 _ (by omega))))))))),
    fun p hp => (h5.bl _ (by omega)).trans ((zlay_o (by omega)).trans ((h4.bl _ (by omega)).trans ((zlay_o (by omega)).trans ((h3.bl _ (by omega)).trans ((zlay_o (by omega)).trans ((h2.bl _ (by omega)).trans ((zlay_o (by omega)).trans (h1.l7 _ (by omega))))))))),
    fun p hp => (h5.bl _ (by omega)).trans ((zlay_o (by omega)).trans ((h4.bl _ (by omega)).trans ((zlay_o (by omega)).trans ((h3.bl _ (by omega)).trans ((zlay_o (by omega)).trans ((h2.bl _ (by omega)).trans ((zlay_o (by omega)).trans (h1.l8 _ (by omega))))))))),
    fun p hp => (h5.bl _ (by omega)).trans ((zlay_o (by omega)).trans ((h4.bl _ (by omega)).trans ((zlay_o (by omega)).trans ((h3.bl _ (by omega)).trans ((zlay_o (by omega)).trans ((h2.bl _ (by omega)).trans ((zlay_o (by omega)).trans (h1.l9 _ (by omega))))))))),
    fun p hp => (h5.bl _ (by omega)).trans ((zlay_o (by omega)).trans ((h4.bl _ (by omega)).trans ((zlay_o (by omega)).trans ((h3.bl _ (by omega)).trans ((zlay_o (by omega)).trans ((h2.bl _ (by omega)).trans ((zlay_o (by omega)).trans (h1.l10 _ (by omega))))))))),
    fun p hp => (h5.bl _ (by omega)).trans ((zlay_o (by omega)).trans ((h4.bl _ (by omega)).trans ((zlay_o (by omega)).trans ((h3.bl _ (by omega)).trans ((zlay_o (by omega)).trans ((h2.bl _ (by omega)).trans ((zlay_o (by omega)).trans (h1.l11 _ (by omega))))))))),
    fun p hp => (h5.bl _ (by omega)).trans ((zlay_o (by omega)).trans ((h4.bl _ (by omega)).trans ((zlay_o (by omega)).trans ((h3.bl _ (by omega)).trans ((zlay_o (by omega)).trans ((h2.bl _ (by omega)).trans ((zlay_o (by omega)).trans (h1.l12 _ (by omega))))))))),
    fun p hp => (h5.bl _ (by omega)).trans ((zlay_o (by omega)).trans ((h4.bl _ (by omega)).trans ((zlay_o (by omega)).trans ((h3.bl _ (by omega)).trans ((zlay_o (by omega)).trans ((h2.bl _ (by omega)).trans ((zlay_o (by omega)).trans (h1.l13 _ (by omega))))))))),
    fun p hp => (h5.bl _ (by omega)).trans ((zlay_o (by omega)).trans ((h4.bl _ (by omega)).trans ((zlay_o (by omega)).trans ((h3.bl _ (by omega)).trans ((zlay_o (by omega)).trans ((h2.bl _ (by omega)).trans ((zlay_o (by omega)).trans (h1.l14 _ (by omega))))))))),
    fun p hp => (h5.bl _ (by omega)).trans ((zlay_o (by omega)).trans ((h4.bl _ (by omega)).trans ((zlay_o (by omega)).trans ((h3.bl _ (by omega)).trans ((zlay_o (by omega)).trans ((h2.bl _ (by omega)).trans ((zlay_o (by omega)).trans (h1.l15 _ (by omega))))))))),
    fun p hp => (h5.bl _ (by omega)).trans ((zlay_o (by omega)).trans ((h4.bl _ (by omega)).trans ((zlay_o (by omega)).trans ((h3.bl _ (by omega)).trans ((zlay_o (by omega)).trans ((h2.bl _ (by omega)).trans ((zlay_o (by omega)).trans (h1.l16 _ (by omega))))))))),
    fun p hp => (h5.bl _ (by omega)).trans ((zlay_o (by omega)).trans ((h4.bl _ (by omega)).trans ((zlay_o (by omega)).trans ((h3.bl _ (by omega)).trans ((zlay_o (by omega)).trans ((h2.bl _ (by omega)).trans ((zlay_o (by omega)).trans (h1.l17 _ (by omega))))))))),
    fun p hp => (h5.bl _ (by omega)).trans ((zlay_o (by omega)).trans ((h4.bl _ (by omega)).trans ((zlay_o (by omega)).trans ((h3.bl _ (by omega)).trans ((zlay_o (by omega)).trans ((h2.bl _ (by omega)).trans ((zlay_o (by omega)).trans (h1.l18 _ (by omega))))))))),
    fun p hp => (h5.bl _ (by omega)).trans ((zlay_o (by omega)).trans ((h4.bl _ (by omega)).trans ((zlay_o (by omega)).trans ((h3.bl _ (by omega)).trans ((zlay_o (by omega)).trans ((h2.bl _ (by omega)).trans ((zlay_o (by omega)).trans (h1.l19 _ (by omega))))))))),
    fun p hp => (h5.bl _ (by omega)).trans ((zlay_o (by omega)).trans ((h4.bl _ (by omega)).trans ((zlay_o (by omega)).trans ((h3.bl _ (by omega)).trans ((zlay_o (by omega)).trans ((h2.bl _ (by omega)).trans ((zlay_o (by omega)).trans (h1.l20 _ (by omega))))))))),
    fun p hp => (h5.bl _ (by omega)).trans ((zlay_o (by omega)).trans ((h4.bl _ (by omega)).trans ((zlay_o (by omega)).trans ((h3.bl _ (by omega)).trans ((zlay_o (by omega)).trans (h2.l0 _ (by omega))))))),
    fun p hp => (h5.bl _ (by omega)).trans ((zlay_o (by omega)).trans ((h4.bl _ (by omega)).trans ((zlay_o (by omega)).trans ((h3.bl _ (by omega)).trans ((zlay_o (by omega)).trans (h2.l1 _ (by omega))))))),
    fun p hp => (h5.bl _ (by omega)).trans ((zlay_o (by omega)).trans ((h4.bl _ (by omega)).trans ((zlay_o (by omega)).trans ((h3.bl _ (by omega)).trans ((zlay_o (by omega)).trans (h2.l2 _ (by omega))))))),
    fun p hp => (h5.bl _ (by omega)).trans ((zlay_o (by omega)).trans ((h4.bl _ (by omega)).trans ((zlay_o (by omega)).trans ((h3.bl _ (by omega)).trans ((zlay_o (by omega)).trans (h2.l3 _ (by omega))))))),
    fun p hp => (h5.bl _ (by omega)).trans ((zlay_o (by omega)).trans ((h4.bl _ (by omega)).trans ((zlay_o (by omega)).trans ((h3.bl _ (by omega)).trans ((zlay_o (by omega)).trans (h2.l4 _ (by omega))))))),
    fun p hp => (h5.bl _ (by omega)).trans ((zlay_o (by omega)).trans ((h4.bl _ (by omega)).trans ((zlay_o (by omega)).trans ((h3.bl _ (by omega)).trans ((zlay_o (by omega)).trans (h2.l5 _ (by omega))))))),
    fun p hp => (h5.bl _ (by omega)).trans ((zlay_o (by omega)).trans ((h4.bl _ (by omega)).trans ((zlay_o (by omega)).trans ((h3.bl _ (by omega)).trans ((zlay_o (by omega)).trans (h2.l6 _ (by omega))))))),
    fun p hp => (h5.bl _ (by omega)).trans ((zlay_o (by omega)).trans ((h4.bl _ (by omega)).trans ((zlay_o (by omega)).trans ((h3.bl _ (by omega)).trans ((zlay_o (by omega)).trans (h2.l7 _ (by omega))))))),
    fun p hp => (h5.bl _ (by omega)).trans ((zlay_o (by omega)).trans ((h4.bl _ (by omega)).trans ((zlay_o (by omega)).trans ((h3.bl _ (by omega)).trans ((zlay_o (by omega)).trans (h2.l8 _ (by omega))))))),
    fun p hp => (h5.bl _ (by omega)).trans ((zlay_o (by omega)).trans ((h4.bl _ (by omega)).trans ((zlay_o (by omega)).trans (h3.l0 _ (by omega))))),
    fun p hp => (h5.bl _ (by omega)).trans ((zlay_o (by omega)).trans ((h4.bl _ (by omega)).trans ((zlay_o (by omega)).trans (h3.l1 _ (by omega))))),
    fun p hp => (h5.bl _ (by omega)).trans ((zlay_o (by omega)).trans ((h4.bl _ (by omega)).trans ((zlay_o (by omega)).trans (h3.l2 _ (by omega))))),
    fun p hp => (h5.bl _ (by omega)).trans ((zlay_o (by omega)).trans ((h4.bl _ (by omega)).trans ((zlay_o (by omega)).trans (h3.l3 _ (by omega))))),
    fun p hp => (h5.bl _ (by omega)).trans ((zlay_o (by omega)).trans (h4.l0 _ (by omega))),
    fun p hp => (h5.bl _ (by omega)).trans ((zlay_o (by omega)).trans (h4.l1 _ (by omega))),
    fun p hp => (h5.bl _ (by omega)).trans ((zlay_o (by omega)).trans (h4.l2 _ (by omega))),
    fun p hp => h5.l0 _ (by omega),
    fun p hp => h5.l1 _ (by omega),
    fun p hp => h5.l2 _ (by omega),
    fun p hp => (zset_n (Or.inl (by omega))).trans ((congrFun (h5.bc _ (by omega)) _).trans ((zborn_n (by omega)).trans ((zset_n (Or.inl (by omega))).trans ((congrFun (h4.bc _ (by omega)) _).trans ((zborn_n (by omega)).trans ((zset_n (Or.inl (by omega))).trans ((congrFun (h3.bc _ (by omega)) _).trans ((zborn_n (by omega)).trans ((zset_n (Or.inl (by omega))).trans ((congrFun (h2.bc _ (by omega)) _).trans ((zborn_n (by omega)).trans ((zset_n (Or.inl (by omega))).trans ((h1.r1_1 _ (by omega)).trans (by omega)))))))))))))),
    fun p hp => (zset_n (Or.inl (by omega))).trans ((congrFun (h5.bc _ (by omega)) _).trans ((zborn_n (by omega)).trans ((zset_n (Or.inl (by omega))).trans ((congrFun (h4.bc _ (by omega)) _).trans ((zborn_n (by omega)).trans ((zset_n (Or.inl (by omega))).trans ((congrFun (h3.bc _ (by omega)) _).trans ((zborn_n (by omega)).trans ((zset_n (Or.inl (by omega))).trans ((congrFun (h2.bc _ (by omega)) _).trans ((zborn_n (by omega)).trans ((zset_n (Or.inl (by omega))).trans ((h1.r0_0 _ (by omega)).trans (by omega)))))))))))))),
    fun p hp => (zset_n (Or.inl (by omega))).trans ((congrFun (h5.bc _ (by omega)) _).trans ((zborn_n (by omega)).trans ((zset_n (Or.inl (by omega))).trans ((congrFun (h4.bc _ (by omega)) _).trans ((zborn_n (by omega)).trans ((zset_n (Or.inl (by omega))).trans ((congrFun (h3.bc _ (by omega)) _).trans ((zborn_n (by omega)).trans ((zset_n (Or.inl (by omega))).trans ((congrFun (h2.bc _ (by omega)) _).trans ((zborn_n (by omega)).trans ((zset_n (Or.inl (by omega))).trans ((h1.r3_2 _ (by omega)).trans (by omega)))))))))))))),
    fun p hp => (zset_n (Or.inl (by omega))).trans ((congrFun (h5.bc _ (by omega)) _).trans ((zborn_n (by omega)).trans ((zset_n (Or.inl (by omega))).trans ((congrFun (h4.bc _ (by omega)) _).trans ((zborn_n (by omega)).trans ((zset_n (Or.inl (by omega))).trans ((congrFun (h3.bc _ (by omega)) _).trans ((zborn_n (by omega)).trans ((zset_n (Or.inl (by omega))).trans ((congrFun (h2.bc _ (by omega)) _).trans ((zborn_n (by omega)).trans ((zset_n (Or.inl (by omega))).trans ((h1.r3_3 _ (by omega)).trans (by omega)))))))))))))),
    fun p hp => (zset_n (Or.inl (by omega))).trans ((congrFun (h5.bc _ (by omega)) _).trans ((zborn_n (by omega)).trans ((zset_n (Or.inl (by omega))).trans ((congrFun (h4.bc _ (by omega)) _).trans ((zborn_n (by omega)).trans ((zset_n (Or.inl (by omega))).trans ((congrFun (h3.bc _ (by omega)) _).trans ((zborn_n (by omega)).trans ((zset_n (Or.inl (by omega))).trans ((congrFun (h2.bc _ (by omega)) _).trans ((zborn_n (by omega)).trans ((zset_n (Or.inl (by omega))).trans ((h1.r3_6 _ (by omega)).trans (by omega)))))))))))))),
    fun p hp => (zset_n (Or.inl (by omega))).trans ((congrFun (h5.bc _ (by omega)) _).trans ((zborn_n (by omega)).trans ((zset_n (Or.inl (by omega))).trans ((congrFun (h4.bc _ (by omega)) _).trans ((zborn_n (by omega)).trans ((zset_n (Or.inl (by omega))).trans ((congrFun (h3.bc _ (by omega)) _).trans ((zborn_n (by omega)).trans ((zset_n (Or.inl (by omega))).trans ((congrFun (h2.bc _ (by omega)) _).trans ((zborn_n (by omega)).trans ((zset_n (Or.inl (by omega))).trans ((h1.r7_4 _ (by omega)).trans (by omega)))))))))))))),
    fun p hp => (zset_n (Or.inl (by omega))).trans ((congrFun (h5.bc _ (by omega)) _).trans ((zborn_n (by omega)).trans ((zset_n (Or.inl (by omega))).trans ((congrFun (h4.bc _ (by omega)) _).trans ((zborn_n (by omega)).trans ((zset_n (Or.inl (by omega))).trans ((congrFun (h3.bc _ (by omega)) _).trans ((zborn_n (by omega)).trans ((zset_n (Or.inl (by omega))).trans ((congrFun (h2.bc _ (by omega)) _).trans ((zborn_n (by omega)).trans ((zset_n (Or.inl (by omega))).trans ((h1.r7_5 _ (by omega)).trans (by omega)))))))))))))),
    fun p hp => (zset_n (Or.inl (by omega))).trans ((congrFun (h5.bc _ (by omega)) _).trans ((zborn_n (by omega)).trans ((zset_n (Or.inl (by omega))).trans ((congrFun (h4.bc _ (by omega)) _).trans ((zborn_n (by omega)).trans ((zset_n (Or.inl (by omega))).trans ((congrFun (h3.bc _ (by omega)) _).trans ((zborn_n (by omega)).trans ((zset_n (Or.inl (by omega))).trans ((congrFun (h2.bc _ (by omega)) _).trans ((zborn_n (by omega)).trans ((zset_n (Or.inl (by omega))).trans ((h1.r7_6 _ (by omega)).trans (by omega)))))))))))))),
    fun p hp => (zset_n (Or.inl (by omega))).trans ((congrFun (h5.bc _ (by omega)) _).trans ((zborn_n (by omega)).trans ((zset_n (Or.inl (by omega))).trans ((congrFun (h4.bc _ (by omega)) _).trans ((zborn_n (by omega)).trans ((zset_n (Or.inl (by omega))).trans ((congrFun (h3.bc _ (by omega)) _).trans ((zborn_n (by omega)).trans ((zset_n (Or.inl (by omega))).trans ((congrFun (h2.bc _ (by omega)) _).trans ((zborn_n (by omega)).trans ((zset_n (Or.inl (by omega))).trans ((h1.r3_11 _ (by omega)).trans (by omega)))))))))))))),
    fun p hp => (zset_n (Or.inl (by omega))).trans ((congrFun (h5.bc _ (by omega)) _).trans ((zborn_n (by omega)).trans ((zset_n (Or.inl (by omega))).trans ((congrFun (h4.bc _ (by omega)) _).trans ((zborn_n (by omega)).trans ((zset_n (Or.inl (by omega))).trans ((congrFun (h3.bc _ (by omega)) _).trans ((zborn_n (by omega)).trans ((zset_n (Or.inl (by omega))).trans ((congrFun (h2.bc _ (by omega)) _).trans ((zborn_n (by omega)).trans ((zset_n (Or.inl (by omega))).trans ((h1.r11_1 _ (by omega)).trans (by omega)))))))))))))),
    fun p hp => (zset_n (Or.inl (by omega))).trans ((congrFun (h5.bc _ (by omega)) _).trans ((zborn_n (by omega)).trans ((zset_n (Or.inl (by omega))).trans ((congrFun (h4.bc _ (by omega)) _).trans ((zborn_n (by omega)).trans ((zset_n (Or.inl (by omega))).trans ((congrFun (h3.bc _ (by omega)) _).trans ((zborn_n (by omega)).trans ((zset_n (Or.inl (by omega))).trans ((congrFun (h2.bc _ (by omega)) _).trans ((zborn_n (by omega)).trans ((zset_n (Or.inl (by omega))).trans ((h1.r11_2 _ (by omega)).trans (by omega)))))))))))))),
    fun p hp => (zset_n (Or.inl (by omega))).trans ((congrFun (h5.bc _ (by omega)) _).trans ((zborn_n (by omega)).trans ((zset_n (Or.inl (by omega))).trans ((congrFun (h4.bc _ (by omega)) _).trans ((zborn_n (by omega)).trans ((zset_n (Or.inl (by omega))).trans ((congrFun (h3.bc _ (by omega)) _).trans ((zborn_n (by omega)).trans ((zset_n (Or.inl (by omega))).trans ((congrFun (h2.bc _ (by omega)) _).trans ((zborn_n (by omega)).trans ((zset_n (Or.inl (by omega))).trans ((h1.r11_3 _ (by omega)).trans (by omega)))))))))))))),
    fun p hp => (zset_n (Or.inl (by omega))).trans ((congrFun (h5.bc _ (by omega)) _).trans ((zborn_n (by omega)).trans ((zset_n (Or.inl (by omega))).trans ((congrFun (h4.bc _ (by omega)) _).trans ((zborn_n (by omega)).trans ((zset_n (Or.inl (by omega))).trans ((congrFun (h3.bc _ (by omega)) _).trans ((zborn_n (by omega)).trans ((zset_n (Or.inl (by omega))).trans ((congrFun (h2.bc _ (by omega)) _).trans ((zborn_n (by omega)).trans ((zset_n (Or.inl (by omega))).trans ((h1.r11_4 _ (by omega)).trans (by omega)))))))))))))),
    fun p hp => (zset_n (Or.inl (by omega))).trans ((congrFun (h5.bc _ (by omega)) _).trans ((zborn_n (by omega)).trans ((zset_n (Or.inl (by omega))).trans ((congrFun (h4.bc _ (by omega)) _).trans ((zborn_n (by omega)).trans ((zset_n (Or.inl (by omega))).trans ((congrFun (h3.bc _ (by omega)) _).trans ((zborn_n (by omega)).trans ((zset_n (Or.inl (by omega))).trans ((congrFun (h2.bc _ (by omega)) _).trans ((zborn_n (by omega)).trans ((zset_n (Or.inl (by omega))).trans ((h1.r11_5 _ (by omega)).trans (by omega)))))))))))))),
    fun p hp => (zset_n (Or.inl (by omega))).trans ((congrFun (h5.bc _ (by omega)) _).trans ((zborn_n (by omega)).trans ((zset_n (Or.inl (by omega))).trans ((congrFun (h4.bc _ (by omega)) _).trans ((zborn_n (by omega)).trans ((zset_n (Or.inl (by omega))).trans ((congrFun (h3.bc _ (by omega)) _).trans ((zborn_n (by omega)).trans ((zset_n (Or.inl (by omega))).trans ((congrFun (h2.bc _ (by omega)) _).trans ((zborn_n (by omega)).trans ((zset_n (Or.inl (by omega))).trans ((h1.r11_6 _ (by omega)).trans (by omega)))))))))))))),
    fun p hp => (zset_n (Or.inl (by omega))).trans ((congrFun (h5.bc _ (by omega)) _).trans ((zborn_n (by omega)).trans ((zset_n (Or.inl (by omega))).trans ((congrFun (h4.bc _ (by omega)) _).trans ((zborn_n (by omega)).trans ((zset_n (Or.inl (by omega))).trans ((congrFun (h3.bc _ (by omega)) _).trans ((zborn_n (by omega)).trans ((zset_n (Or.inl (by omega))).trans ((congrFun (h2.bc _ (by omega)) _).trans ((zborn_n (by omega)).trans ((zset_n (Or.inl (by omega))).trans ((h1.r3_12 _ (by omega)).trans (by omega)))))))))))))),
    fun p hp => (zset_n (Or.inl (by omega))).trans ((congrFun (h5.bc _ (by omega)) _).trans ((zborn_n (by omega)).trans ((zset_n (Or.inl (by omega))).trans ((congrFun (h4.bc _ (by omega)) _).trans ((zborn_n (by omega)).trans ((zset_n (Or.inl (by omega))).trans ((congrFun (h3.bc _ (by omega)) _).trans ((zborn_n (by omega)).trans ((zset_n (Or.inl (by omega))).trans ((congrFun (h2.bc _ (by omega)) _).trans ((zborn_n (by omega)).trans ((zset_n (Or.inl (by omega))).trans ((h1.r18_1 _ (by omega)).trans (by omega)))))))))))))),
    fun p hp => (zset_n (Or.inl (by omega))).trans ((congrFun (h5.bc _ (by omega)) _).trans ((zborn_n (by omega)).trans ((zset_n (Or.inl (by omega))).trans ((congrFun (h4.bc _ (by omega)) _).trans ((zborn_n (by omega)).trans ((zset_n (Or.inl (by omega))).trans ((congrFun (h3.bc _ (by omega)) _).trans ((zborn_n (by omega)).trans ((zset_n (Or.inl (by omega))).trans ((congrFun (h2.bc _ (by omega)) _).trans ((zborn_n (by omega)).trans ((zset_n (Or.inl (by omega))).trans ((h1.r3_13 _ (by omega)).trans (by omega)))))))))))))),
    fun p hp => (zset_n (Or.inl (by omega))).trans ((congrFun (h5.bc _ (by omega)) _).trans ((zborn_n (by omega)).trans ((zset_n (Or.inl (by omega))).trans ((congrFun (h4.bc _ (by omega)) _).trans ((zborn_n (by omega)).trans ((zset_n (Or.inl (by omega))).trans ((congrFun (h3.bc _ (by omega)) _).trans ((zborn_n (by omega)).trans ((zset_n (Or.inl (by omega))).trans ((congrFun (h2.bc _ (by omega)) _).trans ((zborn_n (by omega)).trans ((zset_n (Or.inl (by omega))).trans ((h1.r3_14 _ (by omega)).trans (by omega)))))))))))))),
    fun p hp => (zset_n (Or.inl (by omega))).trans ((congrFun (h5.bc _ (by omega)) _).trans ((zborn_n (by omega)).trans ((zset_n (Or.inl (by omega))).trans ((congrFun (h4.bc _ (by omega)) _).trans ((zborn_n (by omega)).trans ((zset_n (Or.inl (by omega))).trans ((congrFun (h3.bc _ (by omega)) _).trans ((zborn_n (by omega)).trans ((zset_n (Or.inl (by omega))).trans ((congrFun (h2.bc _ (by omega)) _).trans ((zborn_n (by omega)).trans ((zset_n (Or.inl (by omega))).trans ((h1.r0_1 _ (by omega)).trans (by omega)))))))))))))),
    fun p hp => (zset_n (Or.inr (by decide))).trans ((congrFun (h5.bc _ (by omega)) _).trans ((zborn_n (by omega)).trans ((zset_n (Or.inr (by decide))).trans ((congrFun (h4.bc _ (by omega)) _).trans ((zborn_n (by omega)).trans ((zset_n (Or.inr (by decide))).trans ((congrFun (h3.bc _ (by omega)) _).trans ((zborn_n (by omega)).trans ((zset_n (Or.inr (by decide))).trans ((congrFun (h2.bc _ (by omega)) _).trans ((zborn_n (by omega)).trans ((zset_s' (by omega)).trans (by omega))))))))))))),
    fun p hp => (zset_n (Or.inl (by omega))).trans ((congrFun (h5.bc _ (by omega)) _).trans ((zborn_n (by omega)).trans ((zset_n (Or.inl (by omega))).trans ((congrFun (h4.bc _ (by omega)) _).trans ((zborn_n (by omega)).trans ((zset_n (Or.inl (by omega))).trans ((congrFun (h3.bc _ (by omega)) _).trans ((zborn_n (by omega)).trans ((zset_n (Or.inl (by omega))).trans ((h2.r1_1 _ (by omega)).trans (by omega))))))))))),
    fun p hp => (zset_n (Or.inl (by omega))).trans ((congrFun (h5.bc _ (by omega)) _).trans ((zborn_n (by omega)).trans ((zset_n (Or.inl (by omega))).trans ((congrFun (h4.bc _ (by omega)) _).trans ((zborn_n (by omega)).trans ((zset_n (Or.inl (by omega))).trans ((congrFun (h3.bc _ (by omega)) _).trans ((zborn_n (by omega)).trans ((zset_n (Or.inl (by omega))).trans ((h2.r0_0 _ (by omega)).trans (by omega))))))))))),
    fun p hp => (zset_n (Or.inl (by omega))).trans ((congrFun (h5.bc _ (by omega)) _).trans ((zborn_n (by omega)).trans ((zset_n (Or.inl (by omega))).trans ((congrFun (h4.bc _ (by omega)) _).trans ((zborn_n (by omega)).trans ((zset_n (Or.inl (by omega))).trans ((congrFun (h3.bc _ (by omega)) _).trans ((zborn_n (by omega)).trans ((zset_n (Or.inl (by omega))).trans ((h2.r0_1 _ (by omega)).trans (by omega))))))))))),
    fun p hp => (zset_n (Or.inr (by decide))).trans ((congrFun (h5.bc _ (by omega)) _).trans ((zborn_n (by omega)).trans ((zset_n (Or.inr (by decide))).trans ((congrFun (h4.bc _ (by omega)) _).trans ((zborn_n (by omega)).trans ((zset_n (Or.inr (by decide))).trans ((congrFun (h3.bc _ (by omega)) _).trans ((zborn_n (by omega)).trans ((zset_s' (by omega)).trans (by omega)))))))))),
    fun p hp => (zset_n (Or.inl (by omega))).trans ((congrFun (h5.bc _ (by omega)) _).trans ((zborn_n (by omega)).trans ((zset_n (Or.inl (by omega))).trans ((congrFun (h4.bc _ (by omega)) _).trans ((zborn_n (by omega)).trans ((zset_n (Or.inl (by omega))).trans ((h3.r0_0 _ (by omega)).trans (by omega)))))))),
    fun p hp => (zset_n (Or.inl (by omega))).trans ((congrFun (h5.bc _ (by omega)) _).trans ((zborn_n (by omega)).trans ((zset_n (Or.inl (by omega))).trans ((congrFun (h4.bc _ (by omega)) _).trans ((zborn_n (by omega)).trans ((zset_n (Or.inl (by omega))).trans ((h3.r0_1 _ (by omega)).trans (by omega)))))))),
    fun p hp => (zset_n (Or.inl (by omega))).trans ((congrFun (h5.bc _ (by omega)) _).trans ((zborn_n (by omega)).trans ((zset_n (Or.inl (by omega))).trans ((congrFun (h4.bc _ (by omega)) _).trans ((zborn_n (by omega)).trans ((zset_n (Or.inl (by omega))).trans ((h3.r0_2 _ (by omega)).trans (by omega)))))))),
    fun p hp => (zset_n (Or.inr (by decide))).trans ((congrFun (h5.bc _ (by omega)) _).trans ((zborn_n (by omega)).trans ((zset_n (Or.inr (by decide))).trans ((congrFun (h4.bc _ (by omega)) _).trans ((zborn_n (by omega)).trans ((zset_s' (by omega)).trans (by omega))))))),
    fun p hp => (zset_n (Or.inl (by omega))).trans ((congrFun (h5.bc _ (by omega)) _).trans ((zborn_n (by omega)).trans ((zset_n (Or.inl (by omega))).trans ((h4.r0_1 _ (by omega)).trans (by omega))))),
    fun p hp => (zset_n (Or.inl (by omega))).trans ((congrFun (h5.bc _ (by omega)) _).trans ((zborn_n (by omega)).trans ((zset_n (Or.inl (by omega))).trans ((h4.r0_3 _ (by omega)).trans (by omega))))),
    fun p hp => (zset_n (Or.inr (by decide))).trans ((congrFun (h5.bc _ (by omega)) _).trans ((zborn_n (by omega)).trans ((zset_s' (by omega)).trans (by omega)))),
    fun p hp => (zset_n (Or.inl (by omega))).trans ((h5.r0_0 _ (by omega)).trans (by omega)),
    fun p hp => (zset_n (Or.inl (by omega))).trans ((h5.r0_1 _ (by omega)).trans (by omega)),
    fun p hp => (zset_s' (by omega)).trans (by omega),
    fun p hp => (zset_n (Or.inr (by decide))).trans ((congrFun (h5.bc _ (by omega)) _).trans ((zborn_n (by omega)).trans ((zset_n (Or.inr (by decide))).trans ((congrFun (h4.bc _ (by omega)) _).trans ((zborn_n (by omega)).trans ((zset_n (Or.inr (by decide))).trans ((congrFun (h3.bc _ (by omega)) _).trans ((zborn_n (by omega)).trans ((zset_n (Or.inr (by decide))).trans ((congrFun (h2.bc _ (by omega)) _).trans ((zborn_n (by omega)).trans ((zset_n (Or.inr (by decide))).trans ((congrFun (h1.bc _ (by omega)) _).trans ((zborn_n (by omega)).trans (rfl))))))))))))))),
    fun p hp => (zset_n (Or.inr (by decide))).trans ((congrFun (h5.bc _ (by omega)) _).trans ((zborn_n (by omega)).trans ((zset_n (Or.inr (by decide))).trans ((congrFun (h4.bc _ (by omega)) _).trans ((zborn_n (by omega)).trans ((zset_n (Or.inr (by decide))).trans ((congrFun (h3.bc _ (by omega)) _).trans ((zborn_n (by omega)).trans ((zset_n (Or.inr (by decide))).trans ((congrFun (h2.bc _ (by omega)) _).trans ((zborn_n (by omega)).trans ((zset_n (Or.inr (by decide))).trans ((congrFun (h1.bc _ (by omega)) _).trans ((zborn_n (by omega)).trans (rfl))))))))))))))),
    fun p hp => (zset_n (Or.inr (by decide))).trans ((congrFun (h5.bc _ (by omega)) _).trans ((zborn_n (by omega)).trans ((zset_n (Or.inr (by decide))).trans ((congrFun (h4.bc _ (by omega)) _).trans ((zborn_n (by omega)).trans ((zset_n (Or.inr (by decide))).trans ((congrFun (h3.bc _ (by omega)) _).trans ((zborn_n (by omega)).trans ((zset_n (Or.inr (by decide))).trans ((congrFun (h2.bc _ (by omega)) _).trans ((zborn_n (by omega)).trans ((zset_n (Or.inr (by decide))).trans ((congrFun (h1.bc _ (by omega)) _).trans ((zborn_n (by omega)).trans (rfl))))))))))))))),
    fun p hp => (zset_n (Or.inr (by decide))).trans ((congrFun (h5.bc _ (by omega)) _).trans ((zborn_n (by omega)).trans ((zset_n (Or.inr (by decide))).trans ((congrFun (h4.bc _ (by omega)) _).trans ((zborn_n (by omega)).trans ((zset_n (Or.inr (by decide))).trans ((congrFun (h3.bc _ (by omega)) _).trans ((zborn_n (by omega)).trans ((zset_n (Or.inr (by decide))).trans ((congrFun (h2.bc _ (by omega)) _).trans ((zborn_n (by omega)).trans ((zset_n (Or.inr (by decide))).trans ((congrFun (h1.bc _ (by omega)) _).trans ((zborn_n (by omega)).trans (rfl))))))))))))))),
    fun p hp => (zset_n (Or.inr (by decide))).trans ((congrFun (h5.bc _ (by omega)) _).trans ((zborn_n (by omega)).trans ((zset_n (Or.inr (by decide))).trans ((congrFun (h4.bc _ (by omega)) _).trans ((zborn_n (by omega)).trans ((zset_n (Or.inr (by decide))).trans ((congrFun (h3.bc _ (by omega)) _).trans ((zborn_n (by omega)).trans ((zset_n (Or.inr (by decide))).trans ((congrFun (h2.bc _ (by omega)) _).trans ((zborn_n (by omega)).trans ((zset_n (Or.inr (by decide))).trans ((congrFun (h1.bc _ (by omega)) _).trans ((zborn_n (by omega)).trans (rfl))))))))))))))),
    fun p hp => (zset_n (Or.inr (by decide))).trans ((congrFun (h5.bc _ (by omega)) _).trans ((zborn_n (by omega)).trans ((zset_n (Or.inr (by decide))).trans ((congrFun (h4.bc _ (by omega)) _).trans ((zborn_n (by omega)).trans ((zset_n (Or.inr (by decide))).trans ((congrFun (h3.bc _ (by omega)) _).trans ((zborn_n (by omega)).trans ((zset_n (Or.inr (by decide))).trans ((congrFun (h2.bc _ (by omega)) _).trans ((zborn_n (by omega)).trans ((zset_n (Or.inr (by decide))).trans ((congrFun (h1.bc _ (by omega)) _).trans ((zborn_n (by omega)).trans (rfl))))))))))))))),
    fun p hp => (zset_n (Or.inr (by decide))).trans ((congrFun (h5.bc _ (by omega)) _).trans ((zborn_n (by omega)).trans ((zset_n (Or.inr (by decide))).trans ((congrFun (h4.bc _ (by omega)) _).trans ((zborn_n (by omega)).trans ((zset_n (Or.inr (by decide))).trans ((congrFun (h3.bc _ (by omega)) _).trans ((zborn_n (by omega)).trans ((zset_n (Or.inr (by decide))).trans ((congrFun (h2.bc _ (by omega)) _).trans ((zborn_n (by omega)).trans ((zset_n (Or.inr (by decide))).trans ((congrFun (h1.bc _ (by omega)) _).trans ((zborn_n (by omega)).trans (rfl))))))))))))))),
    fun p hp => (zset_n (Or.inr (by decide))).trans ((congrFun (h5.bc _ (by omega)) _).trans ((zborn_n (by omega)).trans ((zset_n (Or.inr (by decide))).trans ((congrFun (h4.bc _ (by omega)) _).trans ((zborn_n (by omega)).trans ((zset_n (Or.inr (by decide))).trans ((congrFun (h3.bc _ (by omega)) _).trans ((zborn_n (by omega)).trans ((zset_n (Or.inr (by decide))).trans ((congrFun (h2.bc _ (by omega)) _).trans ((zborn_n (by omega)).trans ((zset_n (Or.inr (by decide))).trans ((congrFun (h1.bc _ (by omega)) _).trans ((zborn_n (by omega)).trans (rfl))))))))))))))),
    fun p hp => (zset_n (Or.inr (by decide))).trans ((congrFun (h5.bc _ (by omega)) _).trans ((zborn_n (by omega)).trans ((zset_n (Or.inr (by decide))).trans ((congrFun (h4.bc _ (by omega)) _).trans ((zborn_n (by omega)).trans ((zset_n (Or.inr (by decide))).trans ((congrFun (h3.bc _ (by omega)) _).trans ((zborn_n (by omega)).trans ((zset_n (Or.inr (by decide))).trans ((congrFun (h2.bc _ (by omega)) _).trans ((zborn_n (by omega)).trans ((zset_n (Or.inr (by decide))).trans ((congrFun (h1.bc _ (by omega)) _).trans ((zborn_n (by omega)).trans (rfl))))))))))))))),
    fun p hp => (zset_n (Or.inr (by decide))).trans ((congrFun (h5.bc _ (by omega)) _).trans ((zborn_n (by omega)).trans ((zset_n (Or.inr (by decide))).trans ((congrFun (h4.bc _ (by omega)) _).trans ((zborn_n (by omega)).trans ((zset_n (Or.inr (by decide))).trans ((congrFun (h3.bc _ (by omega)) _).trans ((zborn_n (by omega)).trans ((zset_n (Or.inr (by decide))).trans ((congrFun (h2.bc _ (by omega)) _).trans ((zborn_n (by omega)).trans ((zset_n (Or.inr (by decide))).trans ((congrFun (h1.bc _ (by omega)) _).trans ((zborn_n (by omega)).trans (rfl))))))))))))))),
    trivial⟩
theorem NwX1.lay {lay l : zLay} {C c : zMem} {o : Int} (h : NwX1 lay l C c o) : ∀ q, 0 ≤ q → q < 18 → l (o + q) = layCo q := by
  intro q q0 q1
  have e : q = 0 ∨ q = 1 ∨ q = 2 ∨ q = 3 ∨ q = 4 ∨ q = 5 ∨ q = 6 ∨ q = 7 ∨ q = 8 ∨ q = 9 ∨ q = 10 ∨ q = 11 ∨ q = 12 ∨ q = 13 ∨ q = 14 ∨ q = 15 ∨ q = 16 ∨ q = 17 := by omega
  rcases e with e | e | e | e | e | e | e | e | e | e | e | e | e | e | e | e | e | e <;> subst e
  · exact h.l0 _ rfl
  · exact h.l1 _ rfl
  · exact h.l2 _ rfl
  · exact h.l3 _ rfl
  · exact h.l4 _ rfl
  · exact h.l5 _ rfl
  · exact h.l6 _ rfl
  · exact h.l7 _ rfl
  · exact h.l8 _ rfl
  · exact h.l9 _ rfl
  · exact h.l10 _ rfl
  · exact h.l11 _ rfl
  · exact h.l12 _ rfl
  · exact h.l13 _ rfl
  · exact h.l14 _ rfl
  · exact h.l15 _ rfl
  · exact h.l16 _ rfl
  · exact h.l17 _ rfl
theorem NwX1.ref {lay l : zLay} {C c : zMem} {o : Int} (h : NwX1 lay l C c o) : ∀ q j t, rfCo q j = some t → c (o + q) j = o + t := by
  intro q j t ht
  unfold rfCo at ht
  split at ht
  · rename_i e
    subst e
    split at ht
    · rename_i e; subst e; cases ht; exact h.r0_2 _ rfl
    split at ht
    · rename_i e; subst e; cases ht; exact h.r0_3 _ rfl
    split at ht
    · rename_i e; subst e; cases ht; exact h.r0_6 _ rfl
    split at ht
    · rename_i e; subst e; cases ht; exact h.r0_11 _ rfl
    split at ht
    · rename_i e; subst e; cases ht; exact h.r0_12 _ rfl
    split at ht
    · rename_i e; subst e; cases ht; exact h.r0_13 _ rfl
    split at ht
    · rename_i e; subst e; cases ht; exact h.r0_14 _ rfl
    · cases ht
  split at ht
  · rename_i e
    subst e
    split at ht
    · rename_i e; subst e; cases ht; exact h.r4_4 _ rfl
    split at ht
    · rename_i e; subst e; cases ht; exact h.r4_5 _ rfl
    split at ht
    · rename_i e; subst e; cases ht; exact h.r4_6 _ rfl
    · cases ht
  split at ht
  · rename_i e
    subst e
    split at ht
    · rename_i e; subst e; cases ht; exact h.r8_1 _ rfl
    split at ht
    · rename_i e; subst e; cases ht; exact h.r8_2 _ rfl
    split at ht
    · rename_i e; subst e; cases ht; exact h.r8_3 _ rfl
    split at ht
    · rename_i e; subst e; cases ht; exact h.r8_4 _ rfl
    split at ht
    · rename_i e; subst e; cases ht; exact h.r8_5 _ rfl
    split at ht
    · rename_i e; subst e; cases ht; exact h.r8_6 _ rfl
    · cases ht
  split at ht
  · rename_i e
    subst e
    split at ht
    · rename_i e; subst e; cases ht; exact h.r15_1 _ rfl
    · cases ht
  · cases ht
/-- the first k councils of the row are made -/
def Md (k : Int) (lay l : zLay) (C c : zMem) (o : Int) : Prop := (∀ p, p < o + 57 → l p = lay p) ∧ (∀ p, p < o + 57 → p ≠ o + 56 → c p = C p) ∧ (∀ i, 0 ≤ i → i < k → c (o + 56) i = o + 57 + 18 * i) ∧ (∀ i q, 0 ≤ i → i < k → 0 ≤ q → q < 18 → l (o + 57 + 18 * i + q) = layCo q) ∧ (∀ i q j t, 0 ≤ i → i < k → 0 ≤ q → q < 18 → rfCo q j = some t → c (o + 57 + 18 * i + q) j = o + 57 + 18 * i + t)
theorem Md.bl {k : Int} {lay l : zLay} {C c : zMem} {o : Int} (h : Md k lay l C c o) : ∀ p, p < o + 57 → l p = lay p := h.1
theorem Md.bc {k : Int} {lay l : zLay} {C c : zMem} {o : Int} (h : Md k lay l C c o) : ∀ p, p < o + 57 → p ≠ o + 56 → c p = C p := h.2.1
theorem Md.pa {k : Int} {lay l : zLay} {C c : zMem} {o : Int} (h : Md k lay l C c o) : ∀ i, 0 ≤ i → i < k → c (o + 56) i = o + 57 + 18 * i := h.2.2.1
theorem Md.ll {k : Int} {lay l : zLay} {C c : zMem} {o : Int} (h : Md k lay l C c o) : ∀ i q, 0 ≤ i → i < k → 0 ≤ q → q < 18 → l (o + 57 + 18 * i + q) = layCo q := h.2.2.2.1
theorem Md.rr {k : Int} {lay l : zLay} {C c : zMem} {o : Int} (h : Md k lay l C c o) : ∀ i q j t, 0 ≤ i → i < k → 0 ≤ q → q < 18 → rfCo q j = some t → c (o + 57 + 18 * i + q) j = o + 57 + 18 * i + t := h.2.2.2.2
theorem n_X11l {G : zG} {Q : zQ} {lay : zLay} {C : zMem} {o : Int} {b : Nat × Nat} (ho : lay o = (12, 15)) (h0 : 0 ≤ o) (hl : lay (o + 56) = (102, 12)) (hr : C o 7 = o + 56) (w : ∀ l c, Md 12 lay l C c o → zW G KX11_init 6 Q 87 [zP o, zI 12] [] l c (o + 273) b) : ∀ (t : Nat) (k : Int) (l : zLay) (c : zMem), 0 ≤ k → k + t = 12 → Md k lay l C c o → zW G KX11_init 6 Q 62 [zP o, zI k] [] l c (o + 57 + 18 * k) (18 * t + b.1, 450 * t + b.2) := by
  have hne : o ≠ -1 := by omega
  intro t
  induction t with
  | zero =>
    intro k l c k0 kt h
    have hk : k = 12 := by omega
    subst hk
    refine z_il1 eX11_init_62 (z_bipush eX11_init_63 (by decide) (z_icmp_ge eX11_init_65 rfl ⟨by decide, by decide⟩ (fun _ => ?_) (fun z => absurd (by decide) z)))
    rw [show o + 57 + 18 * 12 = o + 273 by omega]
    exact zW.mono ⟨by omega, by omega⟩ (w l c h)
  | succ t ih =>
    intro k l c k0 kt h
    refine z_il1 eX11_init_62 (z_bipush eX11_init_63 (by decide) (z_icmp_ge eX11_init_65 rfl ⟨by unfold zin; omega, by decide⟩ (fun z => ?_) (fun _ => ?_)))
    · exfalso; omega
    · have ho2 : l o = (12, 15) := (h.bl o (by omega)).trans ho
      refine z_al0 eX11_init_68 hne (z_gfP (v := o + 56) lX11_30 eX11_init_69 rfl ho2 ((congrFun (h.bc o (by omega) (by omega)) _).trans hr) ?_)
      refine z_il1 eX11_init_72 ?_
      refine zW.mono (b' := (17 + (18 * t + b.1) + 1, 435 + (450 * t + b.2) + 15)) ⟨by dsimp only; omega, by dsimp only; omega⟩ ?_
      refine z_new (ci := 1) eX11_init_73 rfl rfl nX11_17.1 nX11_17.2.1 nX11_17.2.2 ?_
      refine z_dup eX11_init_76 (Nat.ne_of_beq_eq_false rfl) ?_
      refine z_callI (b' := (17, 435)) (b'' := (18 * t + b.1, 450 * t + b.2)) (av := []) (st := [zP (o + 57 + 18 * k), zI k, zP (o + 56)]) eX11_init_77 vX11_19.1 vX11_19.2.1 vX11_19.2.2 (n_X1 (zlay_s' rfl) (by omega)) (Nat.le_of_ble_eq_true rfl) (by omega) rfl (Nat.le_of_ble_eq_true rfl) (fun r l1 c1 m1 q => ?_) (fun E9 l9 c9 m9 q => by obtain ⟨q1, q2⟩ := q; cases q1)
      obtain ⟨q1, h1, hm1⟩ := q
      have e9 := Sum.inl.inj q1
      subst e9
      subst hm1
      have hl2 : l1 (o + 56) = (102, 12) := (h1.bl _ (by omega)).trans ((zlay_o (by omega)).trans ((h.bl _ (by omega)).trans hl))
      refine z_aastore (ci := 1) (n' := 15) eX11_init_80 hl2 ⟨by omega, by omega⟩ ((h1.l0 _ (by omega))) rfl rfl ?_
      refine zg_iinc eX11_init_81 (fun w _ hw => by cases Option.some.inj (hw.symm.trans (show _ = some (zP o) from rfl)); exact Nat.ne_of_beq_eq_false rfl) rfl (z_goto eX11_init_84 rfl ?_)
      rw [show o + 57 + 18 * k + 18 = o + 57 + 18 * (k + 1) by omega]
      refine ih (k + 1) l1 _ (by omega) (by omega) ⟨fun p hp => (h1.bl _ (by omega)).trans ((zlay_o (by omega)).trans (h.bl _ hp)), fun p hp hp2 => (zset_o (by omega)).trans ((h1.bc _ (by omega)).trans ((zborn_o (by omega)).trans (h.bc _ hp hp2))), fun i i0 i1 => ?_, fun i q i0 i1 q0 q1 => ?_, fun i q j t i0 i1 q0 q1 ht => ?_⟩
      · by_cases e : i = k
        · rw [e]; exact zset_s' rfl
        · exact (zset_n (Or.inr e)).trans ((congrFun (h1.bc _ (by omega)) _).trans ((zborn_n (by omega)).trans (h.pa i i0 (by omega))))
      · by_cases e : i = k
        · rw [e]; exact h1.lay q q0 q1
        · exact (h1.bl _ (by omega)).trans ((zlay_o (by omega)).trans (h.ll i q i0 (by omega) q0 q1))
      · by_cases e : i = k
        · rw [e]; exact (zset_n (Or.inl (by omega))).trans (h1.ref q j t ht)
        · exact (zset_n (Or.inl (by omega))).trans ((congrFun (h1.bc _ (by omega)) _).trans ((zborn_n (by omega)).trans (h.rr i q j t i0 (by omega) q0 q1 ht)))
theorem n_X11 {G : zG} {lay : zLay} {C : zMem} {o : Int} (ho : lay o = (12, 15)) (h0 : 0 ≤ o) : zMM G 6 KX11_init [zP o] lay C (o + 1) (312, 11568) (fun r l c m => r = .inl none ∧ m = o + 313 ∧ ∃ l1 c1 l2 c2, NwX11a lay l1 C c1 o ∧ Md 12 l1 l2 c1 c2 o ∧ NwX11b l2 l c2 c o) := by
  refine z_met' (L := [zP o, zU]) gX11_init.1 rfl rfl (Nat.le_of_ble_eq_true rfl) rfl ?_
  refine zW.mono (b' := (312, 11568)) ⟨by decide, by decide⟩ ?_
  refine n_X11a ho h0 (fun l1 c1 h1 => ?_)
  refine z_iconst eX11_init_60 (z_is1 eX11_init_61 (Nat.ne_of_beq_eq_false rfl) ?_)
  have h57 : o + 57 = o + 57 + 18 * 0 := by omega
  rw [h57]
  have ho1 : l1 o = (12, 15) := h1.l0 _ (by omega)
  refine n_X11l (b := (40, 4406)) ho1 h0 (h1.l56 _ rfl) (h1.r0_7 _ (by omega)) (fun l2 c2 h2 => ?_) 12 0 l1 c1 (Int.le_refl _) rfl ⟨fun _ _ => rfl, fun _ _ _ => rfl, fun i i0 i1 => by omega, fun i q i0 i1 => by omega, fun i q j t i0 i1 => by omega⟩
  refine n_X11b ((h2.bl o (by omega)).trans ho1) h0 (fun l c h => ?_)
  refine z_return eX11_init_142 rfl ?_
  exact ⟨rfl, rfl, l1, c1, l2, c2, h1, h2, h⟩

