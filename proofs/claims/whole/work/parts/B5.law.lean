/-! A law, which lies outside the region: its object p and five arrays behind it. -/
section ZOUT
variable {G : zG} {k : zK} {D : Nat} {Q : zQ} {pc pc' idx : Nat} {L st : List zAV} {lay : zLay} {σ C0 : zMem} {nx x : Int} {bb : Nat × Nat} {own : String} {kf ci : Nat} {ty : FieldType} {fin : Bool} {m : Int}
theorem z_og {o j : Int} (hf : zFl own idx ci kf 0 ty fin) (hd : zD k pc (.getfield idx) 3 pc') (hk : own = k.1.cls) (ho : ¬ inT (o - x)) (hl : lay o = (ci + 1, m)) (hj : (kf : Int) = j) (w : zW G k D Q pc' L (zI (C0 o j) :: st) lay (tC x σ C0) nx bb) : zW G k D Q pc L (zP o :: st) lay (tC x σ C0) nx bb :=
  z_getfield hf hd hk hl (by rw [hj, tC_out ho]; exact w)
theorem z_oa {o j t : Int} (hf : zFl own idx ci kf 2 ty fin) (hd : zD k pc (.getfield idx) 3 pc') (hk : own = k.1.cls) (ho : ¬ inT (o - x)) (hl : lay o = (ci + 1, m)) (hj : (kf : Int) = j) (hv : C0 o j = t) (w : zW G k D Q pc' L (zP t :: st) lay (tC x σ C0) nx bb) : zW G k D Q pc L (zP o :: st) lay (tC x σ C0) nx bb :=
  z_getfield hf hd hk hl (by rw [hj, tC_out ho, hv]; exact w)
theorem z_op {o j v : Int} (hf : zFl own idx ci kf 0 .int false) (hd : zD k pc (.putfield idx) 3 pc') (hk : own = k.1.cls) (ho : ¬ inT (o - x)) (hl : lay o = (ci + 1, m)) (hj : (kf : Int) = j) (w : zW G k D Q pc' L st lay (tC x σ (zset C0 o j v)) nx bb) : zW G k D Q pc L (zI v :: zP o :: st) lay (tC x σ C0) nx bb :=
  z_putfield (tg := 0) hf hd hk hl zfit_I (Or.inl rfl) (by rw [hj, tC_out_set ho]; exact w)
theorem z_ol {o j : Int} (hd : zD k pc .iaload 1 pc') (ho : ¬ inT (o - x)) (hl : lay o = (100, m)) (hj : 0 ≤ j ∧ j < m) (w : zW G k D Q pc' L (zI (C0 o j) :: st) lay (tC x σ C0) nx bb) : zW G k D Q pc L (zI j :: zP o :: st) lay (tC x σ C0) nx bb :=
  z_iaload hd hl hj (by rw [tC_out ho]; exact w)
theorem z_os {o j v : Int} (hd : zD k pc .iastore 1 pc') (ho : ¬ inT (o - x)) (hl : lay o = (100, m)) (hj : 0 ≤ j ∧ j < m) (w : zW G k D Q pc' L st lay (tC x σ (zset C0 o j v)) nx bb) : zW G k D Q pc L (zI v :: zI j :: zP o :: st) lay (tC x σ C0) nx bb :=
  z_iastore hd hl hj (by rw [tC_out_set ho]; exact w)
theorem z_on {o : Int} (hd : zD k pc .arraylength 1 pc') (ho : ¬ inT (o - x)) (hl : lay o = (100, m)) (w : zW G k D Q pc' L (zI m :: st) lay (tC x σ C0) nx bb) : zW G k D Q pc L (zP o :: st) lay (tC x σ C0) nx bb :=
  z_alen hd hl w
end ZOUT
def LwA (lay : zLay) (x p n : Int) : Prop := (0 ≤ p) ∧ (¬ inT (p - x)) ∧ (¬ inT (p + 1 - x)) ∧ (¬ inT (p + 2 - x)) ∧ (¬ inT (p + 3 - x)) ∧ (¬ inT (p + 4 - x)) ∧ (¬ inT (p + 5 - x)) ∧ (lay p = (4, 7)) ∧ (lay (p + 1) = (100, 12)) ∧ (lay (p + 2) = (100, 12)) ∧ (lay (p + 3) = (100, 12)) ∧ (lay (p + 4) = (100, n)) ∧ (lay (p + 5) = (100, 24)) ∧ (0 ≤ n ∧ n ≤ 400)
theorem LwA.p0 {lay : zLay} {x p n : Int} (h : LwA lay x p n) : 0 ≤ p := h.1
theorem LwA.n0 {lay : zLay} {x p n : Int} (h : LwA lay x p n) : ¬ inT (p - x) := h.2.1
theorem LwA.n1 {lay : zLay} {x p n : Int} (h : LwA lay x p n) : ¬ inT (p + 1 - x) := h.2.2.1
theorem LwA.n2 {lay : zLay} {x p n : Int} (h : LwA lay x p n) : ¬ inT (p + 2 - x) := h.2.2.2.1
theorem LwA.n3 {lay : zLay} {x p n : Int} (h : LwA lay x p n) : ¬ inT (p + 3 - x) := h.2.2.2.2.1
theorem LwA.n4 {lay : zLay} {x p n : Int} (h : LwA lay x p n) : ¬ inT (p + 4 - x) := h.2.2.2.2.2.1
theorem LwA.n5 {lay : zLay} {x p n : Int} (h : LwA lay x p n) : ¬ inT (p + 5 - x) := h.2.2.2.2.2.2.1
theorem LwA.l0 {lay : zLay} {x p n : Int} (h : LwA lay x p n) : lay p = (4, 7) := h.2.2.2.2.2.2.2.1
theorem LwA.l1 {lay : zLay} {x p n : Int} (h : LwA lay x p n) : lay (p + 1) = (100, 12) := h.2.2.2.2.2.2.2.2.1
theorem LwA.l2 {lay : zLay} {x p n : Int} (h : LwA lay x p n) : lay (p + 2) = (100, 12) := h.2.2.2.2.2.2.2.2.2.1
theorem LwA.l3 {lay : zLay} {x p n : Int} (h : LwA lay x p n) : lay (p + 3) = (100, 12) := h.2.2.2.2.2.2.2.2.2.2.1
theorem LwA.l4 {lay : zLay} {x p n : Int} (h : LwA lay x p n) : lay (p + 4) = (100, n) := h.2.2.2.2.2.2.2.2.2.2.2.1
theorem LwA.l5 {lay : zLay} {x p n : Int} (h : LwA lay x p n) : lay (p + 5) = (100, 24) := h.2.2.2.2.2.2.2.2.2.2.2.2.1
theorem LwA.nn {lay : zLay} {x p n : Int} (h : LwA lay x p n) : 0 ≤ n ∧ n ≤ 400 := h.2.2.2.2.2.2.2.2.2.2.2.2.2
def LwF (C : zMem) (p : Int) : Prop := (C p 1 = p + 1) ∧ (C p 2 = p + 2) ∧ (C p 3 = p + 3) ∧ (C p 5 = p + 4) ∧ (C p 6 = p + 5)
theorem LwF.f1 {C : zMem} {p : Int} (h : LwF C p) : C p 1 = p + 1 := h.1
theorem LwF.f2 {C : zMem} {p : Int} (h : LwF C p) : C p 2 = p + 2 := h.2.1
theorem LwF.f3 {C : zMem} {p : Int} (h : LwF C p) : C p 3 = p + 3 := h.2.2.1
theorem LwF.f5 {C : zMem} {p : Int} (h : LwF C p) : C p 5 = p + 4 := h.2.2.2.1
theorem LwF.f6 {C : zMem} {p : Int} (h : LwF C p) : C p 6 = p + 5 := h.2.2.2.2
theorem LwF.cg {C C' : zMem} {p : Int} (h : LwF C p) (e : C' p = C p) : LwF C' p := by
  unfold LwF
  rw [e]
  exact h
/-- what a step does to a stack of height t -/
def qJoin (s a c : Int) : Int := if s = 2000 then a + c else if s = 2001 then (if a < c then 1 else 0) else if s = 2002 then (if c < a then 1 else 0) else if s = 2003 then zand a c else zor a c
def qStp (F : Int → Int) (s : Int) (r : Int × (Int → Int)) : Int × (Int → Int) :=
  if s < 2000 then (r.1 + 1, zput r.2 r.1 (if 0 ≤ s - 1000 then F (s - 1000) else s)) else if s = 2005 then (r.1, zput r.2 (r.1 - 1) (1 - r.2 (r.1 - 1))) else (r.1 - 1, zput r.2 (r.1 - 2) (qJoin s (r.2 (r.1 - 2)) (r.2 (r.1 - 1))))
def qOKs (s : Int) (r : Int × (Int → Int)) : Prop := (0 ≤ s ∧ s ≤ 2005) ∧ (0 ≤ r.1 ∧ r.1 ≤ 24) ∧ (s < 2000 → r.1 < 24 ∧ s < 1010) ∧ (s = 2005 → 1 ≤ r.1) ∧ (2000 ≤ s ∧ s ≠ 2005 → 2 ≤ r.1 ∧ zin (r.2 (r.1 - 2)) ∧ zin (r.2 (r.1 - 1)))
def qRunOK (F P : Int → Int) : Nat → Int → (Int × (Int → Int)) → (Int × (Int → Int)) → Prop
  | 0, _, r, r' => r = r'
  | m + 1, i, r, r' => qOKs (P i) r ∧ qRunOK F P m (i + 1) (qStp F (P i) r) r'
theorem qRunOK.add {F P : Int → Int} : ∀ {m n : Nat} {i : Int} {r r' r'' : Int × (Int → Int)}, qRunOK F P m i r r' → qRunOK F P n (i + m) r' r'' → qRunOK F P (m + n) i r r'' := by
  intro m
  induction m with
  | zero =>
    intro n i r r' r'' h h2
    rw [show i + ((0 : Nat) : Int) = i by omega] at h2
    have : r = r' := h
    rw [Nat.zero_add, this]; exact h2
  | succ m ih =>
    intro n i r r' r'' h h2
    rw [show m + 1 + n = (m + n) + 1 by omega]
    exact ⟨h.1, ih h.2 (by rw [show i + 1 + (m : Int) = i + ((m + 1 : Nat) : Int) by omega]; exact h2)⟩
theorem qRunOK.cg {F P P' : Int → Int} : ∀ {m : Nat} {i : Int} {r r' : Int × (Int → Int)}, (∀ j, i ≤ j → j < i + (m : Int) → P' j = P j) → qRunOK F P m i r r' → qRunOK F P' m i r r' := by
  intro m
  induction m with
  | zero => intro i r r' _ h; exact h
  | succ m ih =>
    intro i r r' he h
    unfold qRunOK
    rw [he i (by omega) (by omega)]
    exact ⟨h.1, ih (fun j j0 j1 => he j (by omega) (by omega)) h.2⟩
theorem c_X3_join {G : zG} {lay : zLay} {σ C0 : zMem} {nx x : Int} (hT : TopL lay x) {s a c : Int} (hs : 2000 ≤ s ∧ s ≤ 2004) (ha : zin a) (hc : zin c) : zMM G 1 KX3_join [zI s, zI a, zI c] lay (tC x σ C0) nx (0, 0) (zR (some (zI (qJoin s a c))) lay (tC x (σ) (C0)) nx) := by
  refine z_met' (L := [zI s, zI a, zI c]) gX3_join.1 rfl rfl (Nat.le_of_ble_eq_true rfl) rfl ?_
  unfold zin at ha hc
  refine z_il0 eX3_join_0 ?_
  by_cases h1_2000 : s = 2000
  · refine z_tsIn (off := 31) (tgt := 32) eX3_join_1 ⟨by omega, by omega⟩ ⟨by omega, by omega⟩ (by rw [h1_2000]; rfl) rfl ?_
    refine z_il1 eX3_join_32 ?_
    refine z_il2 eX3_join_33 ?_
    refine z_iadd eX3_join_34 ?_
    refine z_ireturn eX3_join_35 rfl ?_
    unfold qJoin
    first | (rw [if_pos (by omega)]; exact ⟨rfl, rfl, rfl, rfl⟩) | (rw [if_neg (by omega), if_pos (by omega), if_pos (by omega)]; exact ⟨rfl, rfl, rfl, rfl⟩) | (rw [if_neg (by omega), if_pos (by omega), if_neg (by omega)]; exact ⟨rfl, rfl, rfl, rfl⟩) | (rw [if_neg (by omega), if_neg (by omega), if_pos (by omega), if_pos (by omega)]; exact ⟨rfl, rfl, rfl, rfl⟩) | (rw [if_neg (by omega), if_neg (by omega), if_pos (by omega), if_neg (by omega)]; exact ⟨rfl, rfl, rfl, rfl⟩) | (rw [if_neg (by omega), if_neg (by omega), if_neg (by omega), if_pos (by omega)]; exact ⟨rfl, rfl, rfl, rfl⟩) | (rw [if_neg (by omega), if_neg (by omega), if_neg (by omega), if_neg (by omega)]; exact ⟨rfl, rfl, rfl, rfl⟩) | fail
  by_cases h1_2001 : s = 2001
  · refine z_tsIn (off := 35) (tgt := 36) eX3_join_1 ⟨by omega, by omega⟩ ⟨by omega, by omega⟩ (by rw [h1_2001]; rfl) rfl ?_
    refine z_il1 eX3_join_36 ?_
    refine z_il2 eX3_join_37 ?_
    refine z_icmp_ge (tgt := 45) eX3_join_38 rfl ⟨⟨by omega, by omega⟩, ⟨by omega, by omega⟩⟩ (fun h38 => ?_) (fun h38 => ?_)
    · refine z_iconst eX3_join_45 ?_
      refine z_ireturn eX3_join_46 rfl ?_
      unfold qJoin
      first | (rw [if_pos (by omega)]; exact ⟨rfl, rfl, rfl, rfl⟩) | (rw [if_neg (by omega), if_pos (by omega), if_pos (by omega)]; exact ⟨rfl, rfl, rfl, rfl⟩) | (rw [if_neg (by omega), if_pos (by omega), if_neg (by omega)]; exact ⟨rfl, rfl, rfl, rfl⟩) | (rw [if_neg (by omega), if_neg (by omega), if_pos (by omega), if_pos (by omega)]; exact ⟨rfl, rfl, rfl, rfl⟩) | (rw [if_neg (by omega), if_neg (by omega), if_pos (by omega), if_neg (by omega)]; exact ⟨rfl, rfl, rfl, rfl⟩) | (rw [if_neg (by omega), if_neg (by omega), if_neg (by omega), if_pos (by omega)]; exact ⟨rfl, rfl, rfl, rfl⟩) | (rw [if_neg (by omega), if_neg (by omega), if_neg (by omega), if_neg (by omega)]; exact ⟨rfl, rfl, rfl, rfl⟩) | fail
    · refine z_iconst eX3_join_41 ?_
      refine z_goto eX3_join_42 (tgt := 46) rfl ?_
      refine z_ireturn eX3_join_46 rfl ?_
      unfold qJoin
      first | (rw [if_pos (by omega)]; exact ⟨rfl, rfl, rfl, rfl⟩) | (rw [if_neg (by omega), if_pos (by omega), if_pos (by omega)]; exact ⟨rfl, rfl, rfl, rfl⟩) | (rw [if_neg (by omega), if_pos (by omega), if_neg (by omega)]; exact ⟨rfl, rfl, rfl, rfl⟩) | (rw [if_neg (by omega), if_neg (by omega), if_pos (by omega), if_pos (by omega)]; exact ⟨rfl, rfl, rfl, rfl⟩) | (rw [if_neg (by omega), if_neg (by omega), if_pos (by omega), if_neg (by omega)]; exact ⟨rfl, rfl, rfl, rfl⟩) | (rw [if_neg (by omega), if_neg (by omega), if_neg (by omega), if_pos (by omega)]; exact ⟨rfl, rfl, rfl, rfl⟩) | (rw [if_neg (by omega), if_neg (by omega), if_neg (by omega), if_neg (by omega)]; exact ⟨rfl, rfl, rfl, rfl⟩) | fail
  by_cases h1_2002 : s = 2002
  · refine z_tsIn (off := 46) (tgt := 47) eX3_join_1 ⟨by omega, by omega⟩ ⟨by omega, by omega⟩ (by rw [h1_2002]; rfl) rfl ?_
    refine z_il1 eX3_join_47 ?_
    refine z_il2 eX3_join_48 ?_
    refine z_icmp_le (tgt := 56) eX3_join_49 rfl ⟨⟨by omega, by omega⟩, ⟨by omega, by omega⟩⟩ (fun h49 => ?_) (fun h49 => ?_)
    · refine z_iconst eX3_join_56 ?_
      refine z_ireturn eX3_join_57 rfl ?_
      unfold qJoin
      first | (rw [if_pos (by omega)]; exact ⟨rfl, rfl, rfl, rfl⟩) | (rw [if_neg (by omega), if_pos (by omega), if_pos (by omega)]; exact ⟨rfl, rfl, rfl, rfl⟩) | (rw [if_neg (by omega), if_pos (by omega), if_neg (by omega)]; exact ⟨rfl, rfl, rfl, rfl⟩) | (rw [if_neg (by omega), if_neg (by omega), if_pos (by omega), if_pos (by omega)]; exact ⟨rfl, rfl, rfl, rfl⟩) | (rw [if_neg (by omega), if_neg (by omega), if_pos (by omega), if_neg (by omega)]; exact ⟨rfl, rfl, rfl, rfl⟩) | (rw [if_neg (by omega), if_neg (by omega), if_neg (by omega), if_pos (by omega)]; exact ⟨rfl, rfl, rfl, rfl⟩) | (rw [if_neg (by omega), if_neg (by omega), if_neg (by omega), if_neg (by omega)]; exact ⟨rfl, rfl, rfl, rfl⟩) | fail
    · refine z_iconst eX3_join_52 ?_
      refine z_goto eX3_join_53 (tgt := 57) rfl ?_
      refine z_ireturn eX3_join_57 rfl ?_
      unfold qJoin
      first | (rw [if_pos (by omega)]; exact ⟨rfl, rfl, rfl, rfl⟩) | (rw [if_neg (by omega), if_pos (by omega), if_pos (by omega)]; exact ⟨rfl, rfl, rfl, rfl⟩) | (rw [if_neg (by omega), if_pos (by omega), if_neg (by omega)]; exact ⟨rfl, rfl, rfl, rfl⟩) | (rw [if_neg (by omega), if_neg (by omega), if_pos (by omega), if_pos (by omega)]; exact ⟨rfl, rfl, rfl, rfl⟩) | (rw [if_neg (by omega), if_neg (by omega), if_pos (by omega), if_neg (by omega)]; exact ⟨rfl, rfl, rfl, rfl⟩) | (rw [if_neg (by omega), if_neg (by omega), if_neg (by omega), if_pos (by omega)]; exact ⟨rfl, rfl, rfl, rfl⟩) | (rw [if_neg (by omega), if_neg (by omega), if_neg (by omega), if_neg (by omega)]; exact ⟨rfl, rfl, rfl, rfl⟩) | fail
  by_cases h1_2003 : s = 2003
  · refine z_tsIn (off := 57) (tgt := 58) eX3_join_1 ⟨by omega, by omega⟩ ⟨by omega, by omega⟩ (by rw [h1_2003]; rfl) rfl ?_
    refine z_il1 eX3_join_58 ?_
    refine z_il2 eX3_join_59 ?_
    refine z_iand eX3_join_60 ?_
    refine z_ireturn eX3_join_61 rfl ?_
    unfold qJoin
    first | (rw [if_pos (by omega)]; exact ⟨rfl, rfl, rfl, rfl⟩) | (rw [if_neg (by omega), if_pos (by omega), if_pos (by omega)]; exact ⟨rfl, rfl, rfl, rfl⟩) | (rw [if_neg (by omega), if_pos (by omega), if_neg (by omega)]; exact ⟨rfl, rfl, rfl, rfl⟩) | (rw [if_neg (by omega), if_neg (by omega), if_pos (by omega), if_pos (by omega)]; exact ⟨rfl, rfl, rfl, rfl⟩) | (rw [if_neg (by omega), if_neg (by omega), if_pos (by omega), if_neg (by omega)]; exact ⟨rfl, rfl, rfl, rfl⟩) | (rw [if_neg (by omega), if_neg (by omega), if_neg (by omega), if_pos (by omega)]; exact ⟨rfl, rfl, rfl, rfl⟩) | (rw [if_neg (by omega), if_neg (by omega), if_neg (by omega), if_neg (by omega)]; exact ⟨rfl, rfl, rfl, rfl⟩) | fail
  refine z_tsOut (tgt := 62) eX3_join_1 ⟨by omega, by omega⟩ (by omega) rfl ?_
  refine z_il1 eX3_join_62 ?_
  refine z_il2 eX3_join_63 ?_
  refine z_ior eX3_join_64 ?_
  refine z_ireturn eX3_join_65 rfl ?_
  unfold qJoin
  first | (rw [if_pos (by omega)]; exact ⟨rfl, rfl, rfl, rfl⟩) | (rw [if_neg (by omega), if_pos (by omega), if_pos (by omega)]; exact ⟨rfl, rfl, rfl, rfl⟩) | (rw [if_neg (by omega), if_pos (by omega), if_neg (by omega)]; exact ⟨rfl, rfl, rfl, rfl⟩) | (rw [if_neg (by omega), if_neg (by omega), if_pos (by omega), if_pos (by omega)]; exact ⟨rfl, rfl, rfl, rfl⟩) | (rw [if_neg (by omega), if_neg (by omega), if_pos (by omega), if_neg (by omega)]; exact ⟨rfl, rfl, rfl, rfl⟩) | (rw [if_neg (by omega), if_neg (by omega), if_neg (by omega), if_pos (by omega)]; exact ⟨rfl, rfl, rfl, rfl⟩) | (rw [if_neg (by omega), if_neg (by omega), if_neg (by omega), if_neg (by omega)]; exact ⟨rfl, rfl, rfl, rfl⟩) | fail
  
theorem c_X3_addStep {G : zG} {lay : zLay} {σ C0 : zMem} {nx x : Int} (hT : TopL lay x) {p n v : Int} (hL : LwA lay x p n) (hF : LwF C0 p) (hn : 0 ≤ C0 p 4 ∧ C0 p 4 < n) : zMM G 1 KX3_addStep [zP p, zI v] lay (tC x σ C0) nx (0, 0) (zR none lay (tC x (σ) (zset (zset C0 (p + 4) (C0 p 4) v) p 4 (C0 p 4 + 1))) nx) := by
  refine z_met' (L := [zP p, zI v]) gX3_addStep.1 rfl rfl (Nat.le_of_ble_eq_true rfl) rfl ?_
  have hx := hT.1
  have hp := hL.p0
  have hnn := hL.nn
  have hne : p ≠ -1 := by omega
  refine z_al0 eX3_addStep_0 hne ?_
  refine z_og (j := 4) lX3_25 eX3_addStep_1 rfl hL.n0 hL.l0 rfl ?_
  refine z_if_lt (tgt := 39) eX3_addStep_4 rfl ⟨by omega, by omega⟩ (fun h4 => (by exfalso; omega)) (fun h4 => ?_)
  refine z_al0 eX3_addStep_7 hne ?_
  refine z_og (j := 4) lX3_25 eX3_addStep_8 rfl hL.n0 hL.l0 rfl ?_
  refine z_al0 eX3_addStep_11 hne ?_
  refine z_oa (j := 5) lX3_19 eX3_addStep_12 rfl hL.n0 hL.l0 rfl hF.f5 ?_
  refine z_on eX3_addStep_15 hL.n4 hL.l4 ?_
  refine z_icmp_ge (tgt := 39) eX3_addStep_16 rfl ⟨⟨by omega, by omega⟩, ⟨by omega, by omega⟩⟩ (fun h16 => (by exfalso; omega)) (fun h16 => ?_)
  refine z_al0 eX3_addStep_19 hne ?_
  refine z_oa (j := 5) lX3_19 eX3_addStep_20 rfl hL.n0 hL.l0 rfl hF.f5 ?_
  refine z_al0 eX3_addStep_23 hne ?_
  refine z_og (j := 4) lX3_25 eX3_addStep_24 rfl hL.n0 hL.l0 rfl ?_
  refine z_il1 eX3_addStep_27 ?_
  refine z_os eX3_addStep_28 hL.n4 hL.l4 ⟨by omega, by omega⟩ ?_
  refine z_al0 eX3_addStep_29 hne ?_
  refine z_dup eX3_addStep_30 (Nat.ne_of_beq_eq_false rfl) ?_
  refine z_og (j := 4) lX3_25 eX3_addStep_31 rfl hL.n0 hL.l0 rfl ?_
  rw [zset_o (by omega)]
  refine z_iconst eX3_addStep_34 ?_
  refine z_iadd eX3_addStep_35 ?_
  refine z_op (j := 4) lX3_25 eX3_addStep_36 rfl hL.n0 hL.l0 rfl ?_
  refine z_return eX3_addStep_39 rfl ?_
  exact ⟨rfl, rfl, rfl, rfl⟩
theorem c_X3_addLine {G : zG} {lay : zLay} {σ C0 : zMem} {nx x : Int} (hT : TopL lay x) {p n k v : Int} (hL : LwA lay x p n) (hF : LwF C0 p) (hn : 0 ≤ C0 p 0 ∧ C0 p 0 < 12) : zMM G 1 KX3_addLine [zP p, zI k, zI v] lay (tC x σ C0) nx (0, 0) (zR none lay (tC x (σ) (zset (zset (zset (zset C0 (p + 1) (C0 p 0) k) (p + 2) (C0 p 0) v) (p + 3) (C0 p 0) (C0 p 4)) p 0 (C0 p 0 + 1))) nx) := by
  refine z_met' (L := [zP p, zI k, zI v]) gX3_addLine.1 rfl rfl (Nat.le_of_ble_eq_true rfl) rfl ?_
  have hx := hT.1
  have hp := hL.p0
  have hnn := hL.nn
  have hne : p ≠ -1 := by omega
  refine z_al0 eX3_addLine_0 hne ?_
  refine z_og (j := 0) lX3_29 eX3_addLine_1 rfl hL.n0 hL.l0 rfl ?_
  refine z_if_lt (tgt := 59) eX3_addLine_4 rfl ⟨by omega, by omega⟩ (fun h4 => (by exfalso; omega)) (fun h4 => ?_)
  refine z_al0 eX3_addLine_7 hne ?_
  refine z_og (j := 0) lX3_29 eX3_addLine_8 rfl hL.n0 hL.l0 rfl ?_
  refine z_bipush eX3_addLine_11 (by decide) ?_
  refine z_icmp_ge (tgt := 59) eX3_addLine_13 rfl ⟨⟨by omega, by omega⟩, ⟨by omega, by omega⟩⟩ (fun h13 => (by exfalso; omega)) (fun h13 => ?_)
  refine z_al0 eX3_addLine_16 hne ?_
  refine z_oa (j := 1) lX3_9 eX3_addLine_17 rfl hL.n0 hL.l0 rfl hF.f1 ?_
  refine z_al0 eX3_addLine_20 hne ?_
  refine z_og (j := 0) lX3_29 eX3_addLine_21 rfl hL.n0 hL.l0 rfl ?_
  refine z_il1 eX3_addLine_24 ?_
  refine z_os eX3_addLine_25 hL.n1 hL.l1 ⟨by omega, by omega⟩ ?_
  refine z_al0 eX3_addLine_26 hne ?_
  refine z_oa (j := 2) lX3_13 eX3_addLine_27 rfl hL.n0 hL.l0 rfl (hF.cg (zset_o (by omega))).f2 ?_
  refine z_al0 eX3_addLine_30 hne ?_
  refine z_og (j := 0) lX3_29 eX3_addLine_31 rfl hL.n0 hL.l0 rfl ?_
  rw [zset_o (by omega)]
  refine z_il2 eX3_addLine_34 ?_
  refine z_os eX3_addLine_35 hL.n2 hL.l2 ⟨by omega, by omega⟩ ?_
  refine z_al0 eX3_addLine_36 hne ?_
  refine z_oa (j := 3) lX3_16 eX3_addLine_37 rfl hL.n0 hL.l0 rfl (hF.cg (by rw [zset_o (by omega), zset_o (by omega)])).f3 ?_
  refine z_al0 eX3_addLine_40 hne ?_
  refine z_og (j := 0) lX3_29 eX3_addLine_41 rfl hL.n0 hL.l0 rfl ?_
  rw [zset_o (by omega), zset_o (by omega)]
  refine z_al0 eX3_addLine_44 hne ?_
  refine z_og (j := 4) lX3_25 eX3_addLine_45 rfl hL.n0 hL.l0 rfl ?_
  rw [zset_o (by omega), zset_o (by omega)]
  refine z_os eX3_addLine_48 hL.n3 hL.l3 ⟨by omega, by omega⟩ ?_
  refine z_al0 eX3_addLine_49 hne ?_
  refine z_dup eX3_addLine_50 (Nat.ne_of_beq_eq_false rfl) ?_
  refine z_og (j := 0) lX3_29 eX3_addLine_51 rfl hL.n0 hL.l0 rfl ?_
  rw [zset_o (by omega), zset_o (by omega), zset_o (by omega)]
  refine z_iconst eX3_addLine_54 ?_
  refine z_iadd eX3_addLine_55 ?_
  refine z_op (j := 0) lX3_29 eX3_addLine_56 rfl hL.n0 hL.l0 rfl ?_
  refine z_return eX3_addLine_59 rfl ?_
  exact ⟨rfl, rfl, rfl, rfl⟩
theorem c_X3_hasKind {G : zG} {lay : zLay} {σ C0 : zMem} {nx x : Int} (hT : TopL lay x) {p n k : Int} (hL : LwA lay x p n) (hF : LwF C0 p) (hn : 0 ≤ C0 p 0 ∧ C0 p 0 ≤ 12) (hk : zin k) (hc : ∀ i, 0 ≤ i → i < C0 p 0 → zin (C0 (p + 1) i)) : zMM G 1 KX3_hasKind [zP p, zI k] lay (tC x σ C0) nx (0, 0) (zR (some (zI (zbi (∃ i, (0 ≤ i ∧ i < C0 p 0) ∧ C0 (p + 1) i = k)))) lay (tC x (σ) (C0)) nx) := by
  refine z_met' (L := [zP p, zI k, zU]) gX3_hasKind.1 rfl rfl (Nat.le_of_ble_eq_true rfl) rfl ?_
  have hx := hT.1
  have hp := hL.p0
  have hnn := hL.nn
  have hne : p ≠ -1 := by omega
  unfold zin at hk
  have hl : ∀ t : Int, 0 ≤ t → t ≤ C0 p 0 → (∀ i, 0 ≤ i → i < t → C0 (p + 1) i ≠ k) → zW G KX3_hasKind 1 (zR (some (zI (zbi (∃ i, (0 ≤ i ∧ i < C0 p 0) ∧ C0 (p + 1) i = k)))) lay (tC x σ C0) nx) 2 [zP p, zI k, zI t] [] lay (tC x σ C0) nx (0, 0) := by
    refine z_up (C0 p 0) ?_ ?_
    · intro ha
      refine z_il2 eX3_hasKind_2 ?_
      refine z_al0 eX3_hasKind_3 hne ?_
      refine z_og (j := 0) lX3_29 eX3_hasKind_4 rfl hL.n0 hL.l0 rfl ?_
      refine z_icmp_ge (tgt := 28) eX3_hasKind_7 rfl ⟨⟨by omega, by omega⟩, ⟨by omega, by omega⟩⟩ (fun h7 => ?_) (fun h7 => (by exfalso; omega))
      refine z_iconst eX3_hasKind_28 ?_
      refine z_zreturn eX3_hasKind_29 rfl (by first | exact Or.inl rfl | exact Or.inr rfl | exact zbi_01 _ | assumption | omega) ?_
      rw [zbi_f (fun ⟨i, q1, q2⟩ => ha i q1.1 q1.2 q2)]; exact ⟨rfl, rfl, rfl, rfl⟩
    · intro t t0 t1 ih ha
      have hct := hc t t0 t1
      unfold zin at hct
      refine z_il2 eX3_hasKind_2 ?_
      refine z_al0 eX3_hasKind_3 hne ?_
      refine z_og (j := 0) lX3_29 eX3_hasKind_4 rfl hL.n0 hL.l0 rfl ?_
      refine z_icmp_ge (tgt := 28) eX3_hasKind_7 rfl ⟨⟨by omega, by omega⟩, ⟨by omega, by omega⟩⟩ (fun h7 => (by exfalso; omega)) (fun h7 => ?_)
      refine z_al0 eX3_hasKind_10 hne ?_
      refine z_oa (j := 1) lX3_9 eX3_hasKind_11 rfl hL.n0 hL.l0 rfl hF.f1 ?_
      refine z_il2 eX3_hasKind_14 ?_
      refine z_ol eX3_hasKind_15 hL.n1 hL.l1 ⟨by omega, by omega⟩ ?_
      refine z_il1 eX3_hasKind_16 ?_
      refine z_icmp_ne (tgt := 22) eX3_hasKind_17 rfl ⟨⟨by omega, by omega⟩, ⟨by omega, by omega⟩⟩ (fun h17 => ?_) (fun h17 => ?_)
      · refine z_ii2 eX3_hasKind_22 (Nat.ne_of_beq_eq_false rfl) ?_
        refine z_goto eX3_hasKind_25 (tgt := 2) rfl ?_
        refine ih (fun i i0 i1 => ?_)
        by_cases e : i = t
        · rw [e]; exact h17
        · exact ha i i0 (by omega)
      · refine z_iconst eX3_hasKind_20 ?_
        refine z_zreturn eX3_hasKind_21 rfl (by first | exact Or.inl rfl | exact Or.inr rfl | exact zbi_01 _ | assumption | omega) ?_
        rw [zbi_t ⟨t, ⟨t0, t1⟩, by omega⟩]; exact ⟨rfl, rfl, rfl, rfl⟩
  refine z_iconst eX3_hasKind_0 ?_
  refine z_is2 eX3_hasKind_1 (Nat.ne_of_beq_eq_false rfl) ?_
  exact hl 0 (by decide) hn.1 (fun i i0 i1 => absurd i1 (by omega))
