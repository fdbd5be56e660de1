/-! Rows that read and write the heap. -/
def zset (C : zMem) (o j v : Int) : zMem := fun o' j' => if o' = o ∧ j' = j then v else C o' j'
theorem zset_o {C : zMem} {o j v o' : Int} (h : o' ≠ o) : zset C o j v o' = C o' := by
  funext j'
  unfold zset
  rw [if_neg (fun q => h q.1)]
theorem zset_s (C : zMem) (o j v : Int) : zset C o j v o j = v := by simp [zset]
theorem zset_j {C : zMem} {o j v j' : Int} (h : j' ≠ j) : zset C o j v o j' = C o j' := by
  unfold zset
  rw [if_neg (fun q => h q.2)]
/-- the link idx of the class own is to the field kf of class number ci, of this type and tag, final or not -/
def zFl (own : String) (idx ci kf tg : Nat) (ty : FieldType) (fin : Bool) : Prop :=
  ∃ r : vw_C, vwCl[ci]? = some r ∧ kf < r.2.2 ∧ Cond.fieldLink own idx (r.2.1 kf).1 (r.2.1 kf).2.1 (r.2.1 kf).2.2.1 ∈ zTg ∧ zTag (r.2.1 kf).2.2.1 = tg ∧ parseFieldDescriptor (r.2.1 kf).2.2.1 = some ty ∧ (r.2.1 kf).2.2.2 = fin ∧ (r.2.1 kf).1 = r.1
set_option maxRecDepth 100000 in
theorem z_in : ∀ r ∈ vwCl, ∀ w ∈ u_ws r.1 r.2.1 r.2.2, w ∈ zTg := by decide +kernel
set_option maxRecDepth 100000 in
theorem z_ty : ∀ r ∈ vwCl, ∀ k, k < r.2.2 → (parseFieldDescriptor (r.2.1 k).2.2.1).isSome = true := by decide +kernel
set_option maxRecDepth 100000 in
theorem z_nm : ∀ r ∈ vwCl, ∀ a, a < r.2.2 → ∀ b, b < r.2.2 → a ≠ b → (r.2.1 a).2.1 ≠ (r.2.1 b).2.1 := by decide +kernel
theorem z_len : vwCl.length < 90 := Nat.le_of_ble_eq_true rfl
def zty (r : vw_C) (k : Nat) : FieldType := (parseFieldDescriptor (r.2.1 k).2.2.1).getD .int
theorem z_tys {r : vw_C} (h : r ∈ vwCl) : ∀ k, k < r.2.2 → parseFieldDescriptor (r.2.1 k).2.2.1 = some (zty r k) := by
  intro k hk
  obtain ⟨x, hx⟩ := Option.isSome_iff_exists.mp (z_ty r h k hk)
  unfold zty
  rw [hx]
  rfl
theorem z_ci {ci : Nat} {r : vw_C} (h : vwCl[ci]? = some r) : ci + 1 < 100 := by
  have h1 := (List.getElem?_eq_some_iff.mp h).1
  have h2 := z_len
  omega
section ZHEAP
variable {G : zG} {k : zK} {D : Nat} {Q : zQ} {pc pc' : Nat} {L st : List zAV} {lay : zLay} {C : zMem} {nx : Int} {b : Nat × Nat}
theorem zcell_ob {α : Int → Nat} {o : Int} {H : Heap} {ci : Nat} {n : Int} {r : vw_C} (h : zCell G α lay C o H) (ho : lay o = (ci + 1, n)) (hr : vwCl[ci]? = some r) : t_OB (α o) (G.2.2.1.1 ci) r.2.2 (G.2.2.1.2 ci) H (zfv α C o r) := by
  unfold zCell at h
  rw [ho] at h
  simp only [Nat.add_sub_cancel] at h
  rw [if_pos (z_ci hr)] at h
  obtain ⟨r', h1, h2⟩ := h
  cases h1.symm.trans hr
  exact h2
/-- the fields as a list -/
def zfs (α : Int → Nat) (C : zMem) (o : Int) (r : vw_C) : List Value := (List.range r.2.2).map (zfv α C o r)
theorem zfs_get {α : Int → Nat} {C : zMem} {o : Int} {r : vw_C} {kf : Nat} (h : kf < r.2.2) : (zfs α C o r)[kf]? = some (zfv α C o r kf) := by
  unfold zfs
  rw [List.getElem?_map, List.getElem?_range h]
  rfl
theorem zfs_P {α : Int → Nat} {o : Int} {H : Heap} {ci : Nat} {r : vw_C} (hr : vwCl[ci]? = some r) (h : t_OB (α o) (G.2.2.1.1 ci) r.2.2 (G.2.2.1.2 ci) H (zfv α C o r)) : va_P G.2.2.1 vwCl [(α o, .inr (ci, zfs α C o r))] H := by
  intro i q hq
  have hz : i < 1 := (List.getElem?_eq_some_iff.mp hq).1
  rw [show i = 0 by omega] at hq
  cases hq
  refine ⟨r, hr, h.to (fun j hj => ?_)⟩
  show _ = vp_V (zfs α C o r) j
  unfold vp_V
  rw [List.getD_eq_getElem?_getD, zfs_get hj]
  rfl
theorem z_getfield {o : Int} {own : String} {idx ci kf tg : Nat} {ty : FieldType} {fin : Bool} {n : Int} (hf : zFl own idx ci kf tg ty fin) (hd : zD k pc (.getfield idx) 3 pc') (hk : own = k.1.cls) (ho : lay o = (ci + 1, n)) (w : zW G k D Q pc' L ((tg, C o kf) :: st) lay C nx b) : zW G k D Q pc L (zP o :: st) lay C nx b := by
  subst hk
  intro p e R s m args below meth c H locs cells slots mc ms ls α₀ lay₀ α cx he hw hL hs hz hlo hc hm hl
  obtain ⟨r, h1, h2, h3, h4, h5, h6, h7⟩ := hf
  have hne : (lay o).1 ≠ 0 := by rw [ho]; exact Nat.succ_ne_zero ci
  have hm1 : o ≠ -1 := fun q => hne (by rw [q]; exact hw.2.2.2.1)
  have hci := z_ci h1
  obtain ⟨-, -, g3, g4, -, -, g7, g8⟩ := hw.2.2.2.2.1 o hne (by rw [ho]; show ci + 1 ≤ 102; omega)
  have hob := zcell_ob g7 ho h1
  rw [List.map_cons, zc_P α hm1]
  have hrm : r ∈ vwCl := List.mem_of_getElem? h1
  refine va_get (D := G.2.2.1) (cl := vwCl) (tys := zTys G) (C := r.1) (T := r.2.1) (N := r.2.2) cx.1 cx.2.1 (fun w hw => cx.2.2.2.2.2.1 w hw) (z_in r hrm) cx.2.2.2.2.1 cx.2.2.2.2.2.2.2.2.2.1.1 (zfs_P h1 hob) 0 rfl h1 kf h2 (cx.2.2.2.2.2.1 _ h3) (fun _ q => q) (zfs_get h2) hd.1 ?_
  rw [hd.2]
  unfold zfv
  rw [h4]
  have hok : zok lay (tg, C o kf) := by
    intro ht
    have ht : tg = 2 := ht
    refine g8.1 (by rw [ho]; exact hci) r kf (by rw [ho]; exact h1) h2 (h4.trans ht)
  exact w p e R s m args below meth c H locs cells slots mc ms ls α₀ lay₀ α cx he hw hL (zok_c hok (zok_t hs)) hz hlo hc hm hl
theorem z_getfieldN {o : Int} {idx ci kf tg : Nat} {n : Int} {host : String} (r : vw_C) (h1 : vwCl[ci]? = some r) (h2 : kf < r.2.2) (h3 : Cond.fieldLinkNest k.1.cls idx (r.2.1 kf).1 (r.2.1 kf).2.1 (r.2.1 kf).2.2.1 host ∈ zNest) (h4 : zTag (r.2.1 kf).2.2.1 = tg) (hd : zD k pc (.getfield idx) 3 pc') (ho : lay o = (ci + 1, n)) (w : zW G k D Q pc' L ((tg, C o kf) :: st) lay C nx b) : zW G k D Q pc L (zP o :: st) lay C nx b := by
  intro p e R s m args below meth c H locs cells slots mc ms ls α₀ lay₀ α cx he hw hL hs hz hlo hc hm hl
  have hne : (lay o).1 ≠ 0 := by rw [ho]; exact Nat.succ_ne_zero ci
  have hm1 : o ≠ -1 := fun q => hne (by rw [q]; exact hw.2.2.2.1)
  have hci := z_ci h1
  obtain ⟨-, -, g3, g4, -, -, g7, g8⟩ := hw.2.2.2.2.1 o hne (by rw [ho]; show ci + 1 ≤ 102; omega)
  have hob := zcell_ob g7 ho h1
  rw [List.map_cons, zc_P α hm1]
  have hrm : r ∈ vwCl := List.mem_of_getElem? h1
  refine va_getN (D := G.2.2.1) (cl := vwCl) (tys := zTys G) (C := r.1) (T := r.2.1) (N := r.2.2) cx.1 cx.2.1 (fun w hw => cx.2.2.2.2.2.1 w hw) (z_in r hrm) cx.2.2.2.2.1 cx.2.2.2.2.2.2.2.2.2.1.1 (zfs_P h1 hob) 0 rfl h1 kf h2 (va_Nw.use rfl (cx.2.2.2.2.2.2.2.2.2.1.2.1 _ h3)) (fun _ q => q) (zfs_get h2) hd.1 ?_
  rw [hd.2]
  unfold zfv
  rw [h4]
  have hok : zok lay (tg, C o kf) := by
    intro ht
    have ht : tg = 2 := ht
    refine g8.1 (by rw [ho]; exact hci) r kf (by rw [ho]; exact h1) h2 (h4.trans ht)
  exact w p e R s m args below meth c H locs cells slots mc ms ls α₀ lay₀ α cx he hw hL (zok_c hok (zok_t hs)) hz hlo hc hm hl
/-- another cell's content stays where only o changes -/
theorem zCell.kept {α : Int → Nat} {C' : zMem} {o' : Int} {H H1 : Heap} (h : zCell G α lay C o' H) (hC : C' o' = C o') (hH : H1[α o']? = H[α o']?) : zCell G α lay C' o' H1 := by
  unfold zCell at h ⊢
  split
  · rename_i h0
    rw [if_pos h0] at h
    obtain ⟨r, h1, h2⟩ := h
    refine ⟨r, h1, (h2.kept hH).to (fun j _ => ?_)⟩
    unfold zfv
    rw [hC]
  · rename_i h0
    rw [if_neg h0] at h
    rw [hH, h]
    unfold zArr
    rw [hC]
theorem zRefs.kept {C' : zMem} {o' : Int} (h : zRefs lay C o') (hC : C' o' = C o') : zRefs lay C' o' := by
  unfold zRefs
  rw [hC]
  exact h
/-- one cell's new content, the rest of the heap as it was -/
theorem zWR.upd {α : Int → Nat} {H H1 : Heap} {o j x : Int} (h : zWR G α lay C nx H) (ho : (lay o).1 ≠ 0) (ho2 : (lay o).1 ≤ 102) (hz : H1.size = H.size) (hH : ∀ q : Nat, q ≠ α o → H1[q]? = H[q]?) (hc : zCell G α lay (zset C o j x) o H1) (hr : zRefs lay (zset C o j x) o) : zWR G α lay (zset C o j x) nx H1 := by
  obtain ⟨a1, a2, a3, a4, a5, a6, a7, a8, a9⟩ := h
  obtain ⟨p1, p2, p3, -⟩ := a5 o ho ho2
  refine ⟨fun q hq => (hH q (by omega)).trans (a1 q hq), by rw [hz]; exact a2, a3, a4, fun o' h1 h2 => ?_, a6, a7, a8, fun o' => ?_⟩
  · obtain ⟨q1, q2, q3, q4, q5, q6, q7, q8⟩ := a5 o' h1 h2
    refine ⟨q1, q2, q3, by rw [hz]; exact q4, q5, q6, ?_⟩
    by_cases e : o' = o
    · subst e
      exact ⟨hc, hr⟩
    · exact ⟨q7.kept (zset_o e) (hH _ (fun q => e (a6 o' o h1 h2 ho ho2 q))), q8.kept (zset_o e)⟩
  · obtain ⟨z1, z2, z3⟩ := a9 o'
    have e : (lay o').1 = 103 ∨ (lay o').1 = 104 ∨ (lay o').1 = 105 → o' ≠ o := by
      rintro q rfl
      omega
    refine ⟨fun q => ?_, fun q => ?_, fun q => ?_⟩
    · rw [zset_o (e (Or.inl q))]
      exact z1 q
    · rw [zset_o (e (Or.inr (Or.inl q)))]
      exact z2 q
    · rw [zset_o (e (Or.inr (Or.inr q)))]
      exact z3 q
/-- a value that a field of this type takes -/
def zfit (ty : FieldType) (v : zAV) : Prop := ∀ α : Int → Nat, narrow ty (zc α v) = zc α v ∧ fits ty (zc α v) = true
theorem zfit_I {x : Int} : zfit .int (zI x) := fun _ => ⟨rfl, rfl⟩
theorem zfit_Z {x : Int} (h : x = 0 ∨ x = 1) : zfit .boolean (zI x) := fun _ => by rcases h with rfl | rfl <;> exact ⟨rfl, rfl⟩
theorem zfit_P {a : Int} {ty : FieldType} (h : ty.isReference = true) : zfit ty (zP a) := fun α => by
  by_cases ha : a = -1
  · subst ha
    rw [zc_N]
    cases ty <;> first | exact ⟨rfl, rfl⟩ | cases h
  · rw [zc_P α ha]
    cases ty <;> first | exact ⟨rfl, rfl⟩ | cases h
theorem zput_cell {α : Int → Nat} {o x : Int} {H1 : Heap} {ci kf tg : Nat} {n : Int} {r : vw_C} {cell : Cell} (ho : lay o = (ci + 1, n)) (h1 : vwCl[ci]? = some r) (h4 : zTag (r.2.1 kf).2.2.1 = tg)
    (q2 : cell.cls = G.2.2.1.1 ci) (q3 : cell.vm = .none) (q4 : ∀ j, j < r.2.2 → (cell.setSlot (G.2.2.1.2 ci kf) (zc α (tg, x))).slots[G.2.2.1.2 ci j]? = some (updV (zfv α C o r) kf (zc α (tg, x)) j))
    (e1 : H1[α o]? = some (cell.setSlot (G.2.2.1.2 ci kf) (zc α (tg, x)))) : zCell G α lay (zset C o kf x) o H1 := by
  unfold zCell
  rw [ho]
  simp only [Nat.add_sub_cancel]
  rw [if_pos (z_ci h1)]
  refine ⟨r, h1, _, e1, q2, q3, fun j hj => ?_⟩
  rw [q4 j hj]
  unfold updV zfv
  by_cases e : j = kf
  · subst e
    rw [if_pos rfl, h4, zset_s]
  · rw [if_neg e, zset_j (by omega)]
theorem zput_refs {o x : Int} {ci kf tg : Nat} {n : Int} {r : vw_C} (ho : lay o = (ci + 1, n)) (h1 : vwCl[ci]? = some r) (h4 : zTag (r.2.1 kf).2.2.1 = tg) (hv : zok lay (tg, x)) (h : zRefs lay C o) : zRefs lay (zset C o kf x) o := by
  have hci := z_ci h1
  refine ⟨fun h0 r' j hr' hj hj2 => ?_, fun h0 => ?_⟩
  · have hrr : r' = r := by
      rw [ho] at hr'
      exact Option.some.inj (hr'.symm.trans h1)
    subst hrr
    by_cases e : j = kf
    · subst e
      rw [zset_s]
      exact hv (h4.symm.trans hj2)
    · rw [zset_j (by omega)]
      exact h.1 h0 r' j hr' hj hj2
  · rw [ho] at h0
    have : ci + 1 = 102 := h0
    omega
theorem z_putfield {o x : Int} {own : String} {idx ci kf tg : Nat} {ty : FieldType} {fin : Bool} {n : Int} (hf : zFl own idx ci kf tg ty fin) (hd : zD k pc (.putfield idx) 3 pc') (hk : own = k.1.cls) (ho : lay o = (ci + 1, n)) (hv : zfit ty (tg, x)) (hfin : fin = false ∨ (k.1.name = "<init>" ∧ (vwCl[ci]?).map (·.1) = some own)) (w : zW G k D Q pc' L st lay (zset C o kf x) nx b) : zW G k D Q pc L ((tg, x) :: zP o :: st) lay C nx b := by
  subst hk
  intro p e R s m args below meth c H locs cells slots mc ms ls α₀ lay₀ α cx he hw hL hs hz hlo hc hm hl
  obtain ⟨r, h1, h2, h3, h4, h5, h6, h7⟩ := hf
  have hne : (lay o).1 ≠ 0 := by rw [ho]; exact Nat.succ_ne_zero ci
  have hm1 : o ≠ -1 := fun q => hne (by rw [q]; exact hw.2.2.2.1)
  have hci := z_ci h1
  have h102 : (lay o).1 ≤ 102 := by rw [ho]; show ci + 1 ≤ 102; omega
  obtain ⟨-, -, g3, g4, -, -, g7, g8⟩ := hw.2.2.2.2.1 o hne h102
  obtain ⟨cell, q1, q2, q3, q4⟩ := zcell_ob g7 ho h1
  rw [List.map_cons, List.map_cons, zc_P α hm1]
  have hrm : r ∈ vwCl := List.mem_of_getElem? h1
  have hts := fun w hw => cx.2.2.2.2.2.1 w hw
  have hK := cx.2.2.2.2.2.2.2.2.2.1.1
  have hown := cx.2.2.2.2.1
  have hap := va_apart (own := k.1.cls) hts (z_in r hrm) (zty r) (z_tys hrm) (z_nm r hrm) hK h1
  obtain ⟨hS, hfc, kC, hkC, hkind⟩ := hK.1 ci _ h1
  obtain ⟨cf, kf', fi, f, hi, hsl⟩ := hS kf h2
  have hlay := hts _ (z_in r hrm _ (u_in_lay h2))
  unfold u_lay at hlay
  have hst := (u_facts hfc hkC (u_lays hts (z_in r hrm) h2) hi).1
  have fin_ : ∀ (H' : Heap), H'[α o]? = some (cell.setSlot f.slot (zc α (tg, x))) → H'.size = H.size → (∀ q, q ≠ α o → H'[q]? = H[q]?) → W p G.1 e R s m args below meth c H' (locs ++ [⟨α o, f.slot⟩]) cells slots (zF G Q α₀ lay₀ below args s mc ms) (F0 m (pc + 3) ls (st.map (zc α))) := by
    intro H' e1 e2 e3
    rw [hd.2]
    rw [hsl] at e1
    have hC := zput_cell (G := G) (C := C) ho h1 h4 q2 q3 (t_set q4 hap h2 (zc α (tg, x))) e1
    exact w p e R s m args below meth c H' _ cells slots mc ms ls α₀ lay₀ α cx he (hw.upd hne h102 e2 e3 hC (zput_refs ho h1 h4 (zok_h hs) g8)) hL (zok_t (zok_t hs)) (by rw [e2]; exact hz)
      (fun q hq => (List.mem_append.mp hq).elim (hlo q) (fun z => by rw [List.mem_singleton.mp z]; exact g3)) hc hm hl
  rcases Bool.eq_false_or_eq_true fin with hft | hff
  · rw [hft] at h6
    rw [if_pos h6] at hlay
    have hcf : m.cls = cf := by
      obtain ⟨_, _, c', _, _, _, -, -, hf', -, -, -, hown2, -⟩ := Cond.laysFinal_spec hlay
      have e1 : c' = cf := by have := hi.symm.trans hf'; simp at this; exact this.1.symm
      rcases hfin with q | ⟨-, q⟩
      · rw [hft] at q; cases q
      rw [h1] at q
      rw [h7, show r.1 = k.1.cls from Option.some.inj q] at hown2
      rw [← e1]; exact Option.some.inj (hown.symm.trans hown2)
    have hin2 : meth.name = "<init>" := by
      rcases hfin with q | ⟨q, -⟩
      · rw [hft] at q; cases q
      · rw [cx.2.2.2.2.2.2.2.1]; exact q
    have h8 := u_fits hfc hkC hkind (Or.inr hlay) hi h5 (hv α).1 (hv α).2
    exact W.putFinK cx.1 cx.2.1 hown (hts _ h3) hi hst hcf hin2 (by rw [q2]; exact h8) q1 q3 (by rw [hsl]; exact k2_hasslot (q4 kf h2)) rfl rfl hd.1 fin_
  · rw [hff] at h6
    rw [if_neg (by rw [h6]; decide)] at hlay
    have h8 := u_store hfc hkC hkind hlay hi h5 (hv α).1 (hv α).2
    exact W.putK cx.1 cx.2.1 (f := f) ⟨hown, hts _ h3, ⟨_, _, _, hi⟩, hst⟩ (by rw [q2]; exact h8) q1 q3 (by rw [hsl]; exact k2_hasslot (q4 kf h2)) rfl rfl hd.1 fin_
end ZHEAP
