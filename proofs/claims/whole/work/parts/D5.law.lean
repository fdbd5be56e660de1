/-! A law, made. -/
theorem w_ai : Cond.arrayClass .int ∈ zTg := by decide +kernel
section ZPF
variable {G : zG} {k : zK} {D : Nat} {Q : zQ} {pc pc' idx : Nat} {L st : List zAV} {lay : zLay} {C : zMem} {nx : Int} {b : Nat × Nat} {own : String} {ci kf : Nat} {ty : FieldType} {fin : Bool} {n : Int}
/-- a reference put to a field, in a constructor -/
theorem z_pfP {o v j : Int} (hf : zFl own idx ci kf 2 ty fin) (hd : zD k pc (.putfield idx) 3 pc') (hk : own = k.1.cls) (hr : ty.isReference = true) (ho : lay o = (ci + 1, n)) (hj : (kf : Int) = j) (hfin : k.1.name = "<init>" ∧ (vwCl[ci]?).map (·.1) = some own) (w : zW G k D Q pc' L st lay (zset C o j v) nx b) : zW G k D Q pc L (zP v :: zP o :: st) lay C nx b :=
  z_putfield (tg := 2) hf hd hk ho (zfit_P hr) (Or.inr hfin) (by rw [hj]; exact w)
theorem z_pfI {o v j : Int} (hf : zFl own idx ci kf 0 .int fin) (hd : zD k pc (.putfield idx) 3 pc') (hk : own = k.1.cls) (ho : lay o = (ci + 1, n)) (hj : (kf : Int) = j) (hfin : k.1.name = "<init>" ∧ (vwCl[ci]?).map (·.1) = some own) (w : zW G k D Q pc' L st lay (zset C o j v) nx b) : zW G k D Q pc L (zI v :: zP o :: st) lay C nx b :=
  z_putfield (tg := 0) hf hd hk ho zfit_I (Or.inr hfin) (by rw [hj]; exact w)
end ZPF
/-- the object o of a law and the five arrays from nx on, n steps long, all empty, are new -/
def zNewL (lay : zLay) (C : zMem) (o nx n : Int) (l : zLay) (c : zMem) : Prop :=
  (∀ i, i < nx ∨ nx + 5 ≤ i → l i = lay i) ∧ (l nx = (100, 12) ∧ l (nx + 1) = (100, 12) ∧ l (nx + 2) = (100, 12) ∧ l (nx + 3) = (100, n) ∧ l (nx + 4) = (100, 24)) ∧
  (∀ i, (i < nx ∨ nx + 5 ≤ i) → i ≠ o → c i = C i) ∧ (c o 0 = C o 0 ∧ c o 1 = nx ∧ c o 2 = nx + 1 ∧ c o 3 = nx + 2 ∧ c o 4 = C o 4 ∧ c o 5 = nx + 3 ∧ c o 6 = nx + 4)
theorem c_X3_init {G : zG} {lay : zLay} {C : zMem} {nx o n : Int} (ho : lay o = (4, 7)) (ho0 : 0 ≤ o ∧ o < nx) (hn : 0 ≤ n ∧ n ≤ 400) : zMM G 2 KX3_init [zP o, zI n] lay C nx (5, 460) (fun r l c m => r = .inl none ∧ zNewL lay C o nx n l c ∧ m = nx + 5) := by
  refine z_met' (L := [zP o, zI n]) gX3_init.1 rfl rfl (Nat.le_of_ble_eq_true rfl) rfl ?_
  have hne : o ≠ -1 := by omega
  have hnm : KX3_init.1.name = "<init>" ∧ (vwCl[3]?).map (·.1) = some RX3 := ⟨rfl, rfl⟩
  refine z_al0 eX3_init_0 hne ?_
  refine z_objInit eX3_init_1 oX3_1 hne (Nat.le_of_ble_eq_true rfl) (Nat.le_of_ble_eq_true rfl) ?_
  refine z_al0 eX3_init_4 hne ?_
  refine z_bipush eX3_init_5 (by decide) ?_
  refine zW.mono (b' := (4 + 1, 448 + (12 : Int).toNat)) ⟨by decide, by decide⟩ ?_
  refine z_newi eX3_init_7 w_ai ⟨by decide, by decide⟩ ?_
  refine z_pfP (j := 1) lX3_9 eX3_init_9 rfl rfl ((zlay_o (by omega)).trans ho) rfl hnm ?_
  refine z_al0 eX3_init_12 hne ?_
  refine z_bipush eX3_init_13 (by decide) ?_
  refine zW.mono (b' := (3 + 1, 436 + (12 : Int).toNat)) ⟨by decide, by decide⟩ ?_
  refine z_newi eX3_init_15 w_ai ⟨by decide, by decide⟩ ?_
  refine z_pfP (j := 2) lX3_13 eX3_init_17 rfl rfl ((zlay_o (by omega)).trans ((zlay_o (by omega)).trans ho)) rfl hnm ?_
  refine z_al0 eX3_init_20 hne ?_
  refine z_bipush eX3_init_21 (by decide) ?_
  refine zW.mono (b' := (2 + 1, 424 + (12 : Int).toNat)) ⟨by decide, by decide⟩ ?_
  refine z_newi eX3_init_23 w_ai ⟨by decide, by decide⟩ ?_
  refine z_pfP (j := 3) lX3_16 eX3_init_25 rfl rfl ((zlay_o (by omega)).trans ((zlay_o (by omega)).trans ((zlay_o (by omega)).trans ho))) rfl hnm ?_
  refine z_al0 eX3_init_28 hne ?_
  refine z_il1 eX3_init_29 ?_
  refine z_if_ge (tgt := 37) eX3_init_30 rfl ⟨by omega, by omega⟩ (fun h30 => ?_) (fun h30 => (by exfalso; omega))
  refine z_il1 eX3_init_37 ?_
  refine zW.mono (b' := (1 + 1, 24 + n.toNat)) ⟨by show 2 ≤ 2; omega, by show 24 + n.toNat ≤ 424; omega⟩ ?_
  refine z_newi eX3_init_38 w_ai ⟨by omega, by omega⟩ ?_
  refine z_pfP (j := 5) lX3_19 eX3_init_40 rfl rfl ((zlay_o (by omega)).trans ((zlay_o (by omega)).trans ((zlay_o (by omega)).trans ((zlay_o (by omega)).trans ho)))) rfl hnm ?_
  refine z_al0 eX3_init_43 hne ?_
  refine z_bipush eX3_init_44 (by decide) ?_
  refine zW.mono (b' := (0 + 1, 0 + (24 : Int).toNat)) ⟨by decide, by decide⟩ ?_
  refine z_newi eX3_init_46 w_ai ⟨by decide, by decide⟩ ?_
  refine z_pfP (j := 6) lX3_22 eX3_init_48 rfl rfl ((zlay_o (by omega)).trans ((zlay_o (by omega)).trans ((zlay_o (by omega)).trans ((zlay_o (by omega)).trans ((zlay_o (by omega)).trans ho))))) rfl hnm ?_
  refine z_return eX3_init_51 rfl ?_
  refine ⟨rfl, ⟨fun i hi => ?_, ⟨?_, ?_, ?_, ?_, ?_⟩, fun i hi hio => ?_, ?_, ?_, ?_, ?_, ?_, ?_, ?_⟩, by omega⟩
  · rw [zlay_o (by omega), zlay_o (by omega), zlay_o (by omega), zlay_o (by omega), zlay_o (by omega)]
  · rw [zlay_o (by omega), zlay_o (by omega), zlay_o (by omega), zlay_o (by omega), zlay_s]
  · rw [zlay_o (by omega), zlay_o (by omega), zlay_o (by omega), zlay_s]
  · rw [zlay_o (by omega), zlay_o (by omega), show nx + 2 = nx + 1 + 1 by omega, zlay_s]
  · rw [zlay_o (by omega), show nx + 3 = nx + 1 + 1 + 1 by omega, zlay_s]
  · rw [show nx + 4 = nx + 1 + 1 + 1 + 1 by omega, zlay_s]
  · rw [zset_o hio, zzero_o (by omega), zset_o hio, zzero_o (by omega), zset_o hio, zzero_o (by omega), zset_o hio, zzero_o (by omega), zset_o hio, zzero_o (by omega)]
  · rw [zset_f (by decide), zzero_o (by omega), zset_f (by decide), zzero_o (by omega), zset_f (by decide), zzero_o (by omega), zset_f (by decide), zzero_o (by omega), zset_f (by decide), zzero_o (by omega)]
  · rw [zset_f (by decide), zzero_o (by omega), zset_f (by decide), zzero_o (by omega), zset_f (by decide), zzero_o (by omega), zset_f (by decide), zzero_o (by omega), zset_eq]
  · rw [zset_f (by decide), zzero_o (by omega), zset_f (by decide), zzero_o (by omega), zset_f (by decide), zzero_o (by omega), zset_eq]
  · rw [zset_f (by decide), zzero_o (by omega), zset_f (by decide), zzero_o (by omega), zset_eq]; omega
  · rw [zset_f (by decide), zzero_o (by omega), zset_f (by decide), zzero_o (by omega), zset_f (by decide), zzero_o (by omega), zset_f (by decide), zzero_o (by omega), zset_f (by decide), zzero_o (by omega)]
  · rw [zset_f (by decide), zzero_o (by omega), zset_eq]; omega
  · rw [zset_eq]; omega
theorem c_X4_takeKind {G : zG} {lay : zLay} {s C0 : zMem} {nx x e a : Int} {T : Int → Int} (hT : TopL lay x) (hX : TxC x s 295 T e) (ha : 0 ≤ a ∧ a ≤ e) (hS : TxS lay C0) : zMM G 9 KX4_takeKind [zP (x + 294)] lay (tC x (zTk s 295 T e a (-1)) C0) nx (0, 0) (zR (some (zI (zif (qhas T e (qscan qbl T e a) qw_feel) 0 (zif (qhas T e (qscan qbl T e a) qw_dull) 1 (zif (qhas T e (qscan qbl T e a) qw_lapse) 2 (-1)))))) lay (tC x (zTk s 295 T e (zif (qhas T e (qscan qbl T e a) qw_feel) (qscan qbl T e a + 4) (zif (qhas T e (qscan qbl T e a) qw_dull) (qscan qbl T e a + 4) (zif (qhas T e (qscan qbl T e a) qw_lapse) (qscan qbl T e a + 5) a))) (zif (qhas T e (qscan qbl T e a) qw_feel) (-1) (zif (qhas T e (qscan qbl T e a) qw_dull) (-1) (zif (qhas T e (qscan qbl T e a) qw_lapse) (-1) (qscan qbl T e a))))) C0) nx) := by
  refine z_met' (L := [zP (x + 294)]) gX4_takeKind.1 rfl rfl (Nat.le_of_ble_eq_true rfl) rfl ?_
  have hA := LxAt
  have hx := hT.1
  have hne : x + 294 ≠ -1 := by omega
  have hbd := qskip_bd (T := T) ha.2
  refine z_al0 eX4_takeKind_0 hne ?_
  first | refine z_ta0 lX4_12 eX4_takeKind_1 rfl hT hA (by decide) rfl rfl ?_ | refine z_ta lX4_12 eX4_takeKind_1 rfl hT hA ⟨by decide, by decide⟩ rfl rfl ?_
  refine z_ldcS (t := 27) eX4_takeKind_4 rfl rfl rfl (by rw [(hS 27 _ rfl).1]) ?_
  refine z_V1 eX4_takeKind_6 vX4_45 rfl rfl (Nat.le_of_ble_eq_true rfl) (Nat.le_of_ble_eq_true rfl) ((WdAt.b).L0 hT (by decide)) (c_X10_takeWord hT hX ⟨by omega, by omega⟩ hS (t := 27) (wd := qw_feel) (n := 4) rfl rfl (by decide)) ?_
  refine z_ifk_eq (tgt := 14) eX4_takeKind_9 rfl (fun h9 => ?_) (fun h9 => ?_)
  · refine z_al0 eX4_takeKind_14 hne ?_
    first | refine z_ta0 lX4_12 eX4_takeKind_15 rfl hT hA (by decide) rfl rfl ?_ | refine z_ta lX4_12 eX4_takeKind_15 rfl hT hA ⟨by decide, by decide⟩ rfl rfl ?_
    refine z_ldcS (t := 28) eX4_takeKind_18 rfl rfl rfl (by rw [(hS 28 _ rfl).1]) ?_
    refine z_V1 eX4_takeKind_20 vX4_45 rfl rfl (Nat.le_of_ble_eq_true rfl) (Nat.le_of_ble_eq_true rfl) ((WdAt.b).L0 hT (by decide)) (c_X10_takeWord hT hX ⟨by omega, by omega⟩ hS (t := 28) (wd := qw_dull) (n := 4) rfl rfl (by decide)) ?_
    refine z_ifk_eq (tgt := 28) eX4_takeKind_23 rfl (fun h23 => ?_) (fun h23 => ?_)
    · refine z_al0 eX4_takeKind_28 hne ?_
      first | refine z_ta0 lX4_12 eX4_takeKind_29 rfl hT hA (by decide) rfl rfl ?_ | refine z_ta lX4_12 eX4_takeKind_29 rfl hT hA ⟨by decide, by decide⟩ rfl rfl ?_
      refine z_ldcS (t := 29) eX4_takeKind_32 rfl rfl rfl (by rw [(hS 29 _ rfl).1]) ?_
      refine z_V1 eX4_takeKind_34 vX4_70 rfl rfl (Nat.le_of_ble_eq_true rfl) (Nat.le_of_ble_eq_true rfl) ((WdAt.b).L0 hT (by decide)) (c_X10_needWord hT hX ⟨by omega, by omega⟩ hS (t := 29) (wd := qw_lapse) (n := 5) rfl rfl (by decide) rfl) ?_
      refine z_ifk_eq (tgt := 44) eX4_takeKind_37 rfl (fun h37 => ?_) (fun h37 => ?_)
      · refine z_iconst eX4_takeKind_44 ?_
        refine z_ireturn eX4_takeKind_45 rfl ?_
        rw [zif_f h9, zif_f h9, zif_f h9, zif_f h23, zif_f h23, zif_f h23]
        first | (rw [zif_t h37, zif_t h37, zif_t h37]; exact ⟨rfl, rfl, rfl, rfl⟩) | (rw [zif_f h37, zif_f h37, zif_f h37]; exact ⟨rfl, rfl, rfl, rfl⟩)
      · have hw37 := qhas_pos (wd := qw_lapse) (n := 5) h37 rfl (by decide) ⟨by omega, by omega⟩
        refine z_iconst eX4_takeKind_40 ?_
        refine z_goto eX4_takeKind_41 (tgt := 45) rfl ?_
        refine z_ireturn eX4_takeKind_45 rfl ?_
        rw [zif_f h9, zif_f h9, zif_f h9, zif_f h23, zif_f h23, zif_f h23]
        first | (rw [zif_t h37, zif_t h37, zif_t h37]; exact ⟨rfl, rfl, rfl, rfl⟩) | (rw [zif_f h37, zif_f h37, zif_f h37]; exact ⟨rfl, rfl, rfl, rfl⟩)
    · have hw23 := qhas_pos (wd := qw_dull) (n := 4) h23 rfl (by decide) ⟨by omega, by omega⟩
      refine z_iconst eX4_takeKind_26 ?_
      refine z_ireturn eX4_takeKind_27 rfl ?_
      rw [zif_f h9, zif_f h9, zif_f h9, zif_t h23, zif_t h23, zif_t h23]; exact ⟨rfl, rfl, rfl, rfl⟩
  · have hw9 := qhas_pos (wd := qw_feel) (n := 4) h9 rfl (by decide) ⟨by omega, by omega⟩
    refine z_iconst eX4_takeKind_12 ?_
    refine z_ireturn eX4_takeKind_13 rfl ?_
    rw [zif_t h9, zif_t h9, zif_t h9]; exact ⟨rfl, rfl, rfl, rfl⟩
