/-! What holds at the start. -/
def strWs (q : String × Nat × String × List Int) : List Cond :=
  [.exactly (.string q.1 q.2.1) "java/lang/String", .eq (.field (.string q.1 q.2.1) "java/lang/String" "coder" "B") (.int 0), .arrayOf (.field (.string q.1 q.2.1) "java/lang/String" "value" "[B") .byte, .eq (.length (.field (.string q.1 q.2.1) "java/lang/String" "value" "[B")) (.int (Int32.ofNat q.2.2.2.length))] ++
    (List.range q.2.2.2.length).map (fun j => .eq (.elem (.field (.string q.1 q.2.1) "java/lang/String" "value" "[B") (.int (Int32.ofNat j))) (.int ((q.2.2.2.map Int32.ofInt).getD j 0)))
abbrev lw_flat : List Cond := flatC (Jvm.Cond.and given_1 narrow_1)
theorem strW : ∀ q ∈ zStr, ∀ w ∈ strWs q, w ∈ lw_flat := by decide +kernel
theorem strT : ∀ q ∈ zStr, Cond.stringRef q.1 q.2.1 q.2.2.1 ∈ lw_tbl := by decide +kernel
theorem zStr_ok2 : ∀ q ∈ zStr, q.2.2.2.length < 64 := by decide +kernel
theorem zStr_n : zStr.length < 900 := by decide +kernel
theorem nocW : ∀ q ∈ zNoC, Cond.not (.castable q.1 q.2) ∈ lw_flat ∨ Cond.not (.castable q.1 q.2) ∈ lw_tbl := by decide +kernel
theorem nestW : ∀ w ∈ zNest, w ∈ lw_tbl := by decide +kernel
theorem i_tb {w : Cond} (h : decide (w ∈ lw_tbl) = true) : w ∈ lw_tbl := of_decide_eq_true h
theorem clsW : ∀ r ∈ vwCl, (∀ w ∈ u_ws r.1 r.2.1 r.2.2, w ∈ lw_tbl) ∧ Cond.instantiable r.1 r.2.2 ∈ lw_tbl := by decide +kernel
section ZSTART
variable {s : State} {args : Array Value}
theorem st_cls (hts : ∀ w ∈ lw_tbl, w.before args s = true) : ∃ D : va_G, ∀ (c : Nat) (q : vw_C), vwCl[c]? = some q → u_Kn s q.1 q.2.1 q.2.2 (D.1 c) (D.2 c) := by
  have h : ∀ c : Nat, ∃ v : ClassId × (Nat → Nat), ∀ q : vw_C, vwCl[c]? = some q → u_Kn s q.1 q.2.1 q.2.2 v.1 v.2 := by
    intro c
    cases hq : vwCl[c]? with
    | none => exact ⟨(0, fun _ => 0), fun q h => by cases h⟩
    | some q =>
      obtain ⟨h1, h2⟩ := clsW q (List.mem_of_getElem? hq)
      obtain ⟨cC, iS, hk⟩ := u_known (ws := lw_tbl) hts h1 (hts _ h2)
      exact ⟨(cC, iS), fun q' h' => by cases h'; exact hk⟩
  obtain ⟨f, hf⟩ := Classical.axiomOfChoice h
  exact ⟨(fun c => (f c).1, fun c => (f c).2), hf⟩
theorem st_arr {ty : FieldType} (h : (Cond.arrayClass ty).before args s = true) : ∃ cA : ClassId, ArrOfT s cA ty ∧ s.vm.findClass ("[" ++ ty.toString) = some cA := by
  obtain ⟨cA, kA, comp, h1, h2, h3⟩ := Cond.arrayClass_spec h
  exact ⟨cA, fun n z => ⟨(fun k h => by cases h), kA, h2, comp, h3⟩, h1⟩
theorem st_ao {C : String} (h : (Cond.arrayOver (.object C)).before args s = true) : ∃ cA : ClassId, ArrOfT s cA (.object C) ∧ va_RA s cA (.object C) := by
  obtain ⟨comp, c, k, h1, h2, h3, h4, h5⟩ := Cond.arrayOver_spec h
  exact ⟨c, fun n z => ⟨(fun k h => by cases h), k, h3, comp, h4⟩, ⟨k, comp, h3, h4, h1, h5⟩⟩
theorem st_str (hts : ∀ w ∈ lw_tbl, w.before args s = true) (hgv : ∀ w ∈ lw_flat, w.before args s = true) : ∃ tk tv : Nat → Nat, ∀ (n : Nat) (q : String × Nat × String × List Int), zStr[n]? = some q → vk_R q.1 q.2.1 q.2.2.1 (tk n) s ∧ vk_S 1 [q.2.2.2.length] [q.2.2.2.map Int32.ofInt] (fun _ => tk n) (fun _ => tv n) (fun a => s.heap.size ≤ a) s s.heap := by
  have h : ∀ n : Nat, ∃ v : Nat × Nat, ∀ q : String × Nat × String × List Int, zStr[n]? = some q → vk_R q.1 q.2.1 q.2.2.1 v.1 s ∧ vk_S 1 [q.2.2.2.length] [q.2.2.2.map Int32.ofInt] (fun _ => v.1) (fun _ => v.2) (fun a => s.heap.size ≤ a) s s.heap := by
    intro n
    cases hq : zStr[n]? with
    | none => exact ⟨(0, 0), fun q h => by cases h⟩
    | some q =>
      have hm := List.mem_of_getElem? hq
      have hw := strW q hm
      have g : ∀ w ∈ strWs q, w.before args s = true := fun w h => hgv w (hw w h)
      have hlen := zStr_ok2 q hm
      have z1 : ∀ i : Nat, i < 1 → i = 0 := fun i hi => by omega
      obtain ⟨adK, adV, k1, k2⟩ := vk_Sof (args := args) (s := s) (N := 1) (tm := fun _ => .string q.1 q.2.1) (len := [q.2.2.2.length]) (byt := [q.2.2.2.map Int32.ofInt]) (A := fun a => s.heap.size ≤ a)
        (fun i hi => by rw [z1 i hi]; show q.2.2.2.length < 2 ^ 31; omega)
        (fun i hi => g _ (by unfold strWs; simp))
        (fun i hi => g _ (by unfold strWs; simp))
        (fun i hi => g _ (by unfold strWs; simp))
        (fun i hi => by rw [z1 i hi]; exact g _ (by unfold strWs; simp))
        (fun i hi j hj => by
          rw [z1 i hi] at hj ⊢
          refine g _ ?_
          unfold strWs
          exact List.mem_append_right _ (List.mem_map.mpr ⟨j, List.mem_range.mpr hj, rfl⟩))
        (fun i j hi hj hne => absurd ((z1 i hi).trans (z1 j hj).symm) hne)
        (fun a h1 h2 => by omega)
      refine ⟨(adK 0, adV 0), fun q' h' => ?_⟩
      cases h'
      refine ⟨?_, ?_⟩
      · refine vk_R.of (A := args) (hts _ (strT q hm)) (k2 0 (by decide))
      · refine ⟨fun i hi => ?_, fun i j hi hj _ => (z1 i hi).trans (z1 j hj).symm⟩
        have := k1.1 0 (by decide)
        rw [z1 i hi]
        exact this
  obtain ⟨f, hf⟩ := Classical.axiomOfChoice h
  exact ⟨fun n => (f n).1, fun n => (f n).2, hf⟩
/-- the first layout, the first memory, the first places -/
def layS (L : Nat) : zLay := fun o => if o = -5 then (103, (L : Int)) else if o ≤ -1000 then (match zStr[(-1000 - o).toNat]? with | some q => (105, (q.2.2.2.length : Int)) | none => (0, 0)) else if o ≤ -10 then (match zStr[(-10 - o).toNat]? with | some q => (104, (q.2.2.2.length : Int)) | none => (0, 0)) else (0, 0)
def memS (xs : Nat → Int32) : zMem := fun o j => if o = -5 then (xs j.toNat).toInt else match zStr[(if o ≤ -1000 then -1000 - o else -10 - o).toNat]? with | some q => q.2.2.2.getD j.toNat 0 | none => 0
def alS (b : Nat) (tk tv : Nat → Nat) : Int → Nat := fun o => if o = -5 then b else if o ≤ -1000 then tv (-1000 - o).toNat else tk (-10 - o).toNat
theorem st_txt (L : Nat) (xs : Nat → Int32) (t : Nat) (q : String × Nat × String × List Int) (hq : zStr[t]? = some q) : layS L (-10 - (t : Int)) = (104, (q.2.2.2.length : Int)) ∧ layS L (-1000 - (t : Int)) = (105, (q.2.2.2.length : Int)) ∧ ∀ i : Nat, i < q.2.2.2.length → memS xs (-1000 - (t : Int)) i = q.2.2.2.getD i 0 := by
  have ht : t < zStr.length := (List.getElem?_eq_some_iff.mp hq).1
  have hn := zStr_n
  have e1 : (-10 - (-10 - (t : Int))).toNat = t := by omega
  have e2 : (-1000 - (-1000 - (t : Int))).toNat = t := by omega
  refine ⟨?_, ?_, fun i hi => ?_⟩
  · unfold layS
    rw [if_neg (by omega), if_neg (by omega), if_pos (by omega), e1, hq]
  · unfold layS
    rw [if_neg (by omega), if_pos (by omega), e2, hq]
  · unfold memS
    rw [if_neg (by omega), if_pos (by omega), e2, hq]
    rfl
theorem st_wr {G : zG} (L : Nat) (xs : Nat → Int32) (tk tv : Nat → Nat) {b : Nat} (hG : G.2.2.2.2.1 = (b, L, xs)) (hk : G.2.2.2.2.2.1 = tk) (hv : G.2.2.2.2.2.2 = tv) : zWR G (alS b tk tv) (layS L) (memS xs) 0 G.2.1 := by
  have hkd : ∀ o : Int, (layS L o).1 ≠ 0 → 103 ≤ (layS L o).1 ∧ o < 0 := by
    intro o h
    unfold layS at h ⊢
    by_cases e : o = -5
    · rw [if_pos e]; exact ⟨Nat.le_refl _, by omega⟩
    · rw [if_neg e] at h ⊢
      by_cases e1 : o ≤ -1000
      · rw [if_pos e1] at h ⊢
        cases hq : zStr[(-1000 - o).toNat]? with
        | none => rw [hq] at h; exact absurd rfl h
        | some q => exact ⟨by decide, by omega⟩
      · rw [if_neg e1] at h ⊢
        by_cases e2 : o ≤ -10
        · rw [if_pos e2] at h ⊢
          cases hq : zStr[(-10 - o).toNat]? with
          | none => rw [hq] at h; exact absurd rfl h
          | some q => exact ⟨by decide, by omega⟩
        · rw [if_neg e2] at h; exact absurd rfl h
  have hz : ∀ o : Int, 0 ≤ o → (layS L o).1 = 0 := fun o ho => Classical.byContradiction (fun z => by have := (hkd o z).2; omega)
  refine ⟨fun q _ => rfl, Nat.le_refl _, Int.le_refl _, by rfl, fun o h1 h2 => ?_, fun o o' h1 h2 => ?_, fun o ho => hz o ho, fun o ho => by rw [hz o ho]; exact Nat.zero_le _, fun o => ⟨fun h => ?_, fun h => ?_, fun h => ?_⟩⟩
  · have := (hkd o h1).1; omega
  · have := (hkd o h1).1; omega
  · have e : o = -5 := by
      refine Classical.byContradiction (fun e => ?_)
      unfold layS at h
      rw [if_neg e] at h
      by_cases e1 : o ≤ -1000
      · rw [if_pos e1] at h
        cases hq : zStr[(-1000 - o).toNat]? with
        | none => rw [hq] at h; cases h
        | some q => rw [hq] at h; cases h
      · rw [if_neg e1] at h
        by_cases e2 : o ≤ -10
        · rw [if_pos e2] at h
          cases hq : zStr[(-10 - o).toNat]? with
          | none => rw [hq] at h; cases h
          | some q => rw [hq] at h; cases h
        · rw [if_neg e2] at h; cases h
    subst e
    refine ⟨rfl, ?_, ?_, fun j hj => ?_⟩
    · rw [hG]; exact if_pos rfl
    · rw [hG]; exact congrArg Prod.snd (if_pos rfl : layS L (-5) = _)
    · rw [hG]
      show Int32.ofInt (if (-5 : Int) = -5 then (xs ((j : Int)).toNat).toInt else _) = xs j
      rw [if_pos rfl, Int.toNat_natCast, Int32.ofInt_toInt]
  · have e : ¬ o = -5 := fun e => by rw [e] at h; cases h
    unfold layS at h ⊢
    rw [if_neg e] at h ⊢
    by_cases e1 : o ≤ -1000
    · rw [if_pos e1] at h
      cases hq : zStr[(-1000 - o).toNat]? with
      | none => rw [hq] at h; cases h
      | some q => rw [hq] at h; cases h
    · rw [if_neg e1] at h ⊢
      by_cases e2 : o ≤ -10
      · rw [if_pos e2] at h ⊢
        cases hq : zStr[(-10 - o).toNat]? with
        | none => rw [hq] at h; cases h
        | some q =>
          refine ⟨(-10 - o).toNat, q, by omega, hq, ?_, rfl, fun j hj => ?_⟩
          · rw [hk]; unfold alS; rw [if_neg e, if_neg e1]
          · unfold memS
            rw [if_neg e, if_neg e1, hq]
            rfl
      · rw [if_neg e2] at h; cases h
  · have e : ¬ o = -5 := fun e => by rw [e] at h; cases h
    unfold layS at h ⊢
    rw [if_neg e] at h ⊢
    by_cases e1 : o ≤ -1000
    · rw [if_pos e1] at h ⊢
      cases hq : zStr[(-1000 - o).toNat]? with
      | none => rw [hq] at h; cases h
      | some q =>
        refine ⟨(-1000 - o).toNat, q, by omega, hq, ?_, rfl, fun j hj => ?_⟩
        · rw [hv]; unfold alS; rw [if_neg e, if_pos e1]
        · unfold memS
          rw [if_neg e, if_pos e1, hq]
          rfl
    · rw [if_neg e1] at h
      by_cases e2 : o ≤ -10
      · rw [if_pos e2] at h
        cases hq : zStr[(-10 - o).toNat]? with
        | none => rw [hq] at h; cases h
        | some q => rw [hq] at h; cases h
      · rw [if_neg e2] at h; cases h
/-- the knowledge -/
theorem st_kn (l : Launch) {b L : Nat} {xs : Nat → Int32} (hts : ∀ w ∈ lw_tbl, w.before args s = true) (hgv : ∀ w ∈ lw_flat, w.before args s = true) (hX : va_X b L xs s s.heap) (hbl : b < s.heap.size) : ∃ G : zG, zKn G s ∧ G.1 = l ∧ G.2.1 = s.heap ∧ G.2.2.2.2.1 = (b, L, xs) := by
  obtain ⟨D, hD⟩ := st_cls hts
  obtain ⟨c0, a1, a2⟩ := st_arr (hts (.arrayClass .int) (by decide +kernel))
  obtain ⟨c1, a3, a4⟩ := st_arr (hts (.arrayClass .long) (by decide +kernel))
  obtain ⟨c2, a5, a6⟩ := st_ao (C := RX1) (hts (.arrayOver (.object RX1)) (by decide +kernel))
  obtain ⟨tk, tv, ht⟩ := st_str hts hgv
  have hA : ∀ a : Nat, a < s.heap.size → ¬ (fun a => s.heap.size ≤ a) a := fun a h1 h2 => by
    have h3 : s.heap.size ≤ a := h2
    omega
  refine ⟨(l, s.heap, D, (fun n => if n = 0 then c0 else if n = 1 then c1 else c2), (b, L, xs), tk, tv), ⟨⟨hD, fun k q hq => ?_⟩, fun w hw => va_Nw.of (z_nestT w hw) (hts w (nestW w hw)), hX, hbl, ht, vx_Zqof (hts _ (by decide +kernel)) (hts _ (by decide +kernel)) (hgv _ (by decide +kernel)) hA, vx_Zqof (hts _ (by decide +kernel)) (hts _ (by decide +kernel)) (hgv _ (by decide +kernel)) hA, ⟨fun q hq => va_Nc.of ((nocW q hq).elim (fun h => hgv _ h) (fun h => hts _ h)), va_AO.of (hts (.arrayOver (.object RX1)) (by decide +kernel))⟩, va_Zof (hts _ (by decide +kernel)) (hts _ (by decide +kernel)) (va_eqt (hgv (.eq (.static "java/lang/String" "COMPACT_STRINGS" "Z") (.int 1)) (by decide +kernel))) hA, va_Zqof (hts _ (by decide +kernel)) (hts _ (by decide +kernel)) (hgv _ (by decide +kernel)) hA⟩, rfl, rfl, rfl⟩
  have e : (k = 0 ∧ q = (c0, .int)) ∨ (k = 1 ∧ q = (c1, .long)) ∨ (k = 2 ∧ q = (c2, .object RX1)) := by
    match k, hq with
    | 0, hq => exact Or.inl ⟨rfl, (Option.some.inj hq).symm⟩
    | 1, hq => exact Or.inr (Or.inl ⟨rfl, (Option.some.inj hq).symm⟩)
    | 2, hq => exact Or.inr (Or.inr ⟨rfl, (Option.some.inj hq).symm⟩)
    | k + 3, hq => cases hq
  rcases e with ⟨_, e⟩ | ⟨_, e⟩ | ⟨_, e⟩ <;> subst e
  · exact ⟨a1, a2⟩
  · exact ⟨a3, a4⟩
  · exact ⟨a5, a6⟩
end ZSTART
