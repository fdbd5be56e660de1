/-! Handlers, and calls of methods that have some. -/
section ZCAT
variable {G : zG} {k k' : zK} {D D' : Nat} {Q Q' : zQ} {lay : zLay} {C : zMem} {nx : Int} {b b' b'' : Nat × Nat} {L st av : List zAV} {pc pc' n idx ci : Nat}
/-- what E is caught by at pc -/
def zCat (k : zK) (pc : Nat) (E : String) (hpc : Nat) : Prop := ∃ (pre : List ExceptionTableEntry) (x : ExceptionTableEntry) (suf : List ExceptionTableEntry), tableOf k.2.2.2.2 = pre ++ x :: suf ∧ covers x pc = true ∧ x.catchType ≠ 0 ∧ Cond.classLink k.1.cls x.catchType E ∈ zTg ∧ Cond.castable E E ∈ zNest ∧ x.handlerPc = hpc ∧
  ∀ z ∈ pre, covers z pc = false ∨ (z.catchType ≠ 0 ∧ ∃ nm : String, Cond.classLink k.1.cls z.catchType nm ∈ zTg ∧ (E, nm) ∈ zNoC)
theorem z_callVH {o nn : Int} {r0 : vw_C} (hd : zD k pc (.invokevirtual idx) 3 pc') (hg : zGood k' n) (hh : k'.2.2.2.2 = []) (hl9 : zMl k.1.cls idx k') (hM : zMM G D' k' (zP o :: av) lay C nx b' Q') (hD : D' + 1 ≤ D) (ho : lay o = (ci + 1, nn)) (hr0 : vwCl[ci]? = some r0) (hcl : r0.1 = k'.1.cls) (hn : av.length = n) (hrest : st.length ≤ 4)
    (kk : ∀ (r : Option zAV) (lay' : zLay) (C' : zMem) (nx' : Int), Q' (.inl r) lay' C' nx' → zW G k D Q pc' L (r.toList ++ st) lay' C' nx' b'')
    (kx : ∀ (E : String) (lay' : zLay) (C' : zMem) (nx' : Int), Q' (.inr E) lay' C' nx' → ∃ hpc : Nat, zCat k pc E hpc ∧ ∀ a : Int, zW G k D Q hpc L [zX a] lay' C' nx' b'') :
    zW G k D Q pc L (av.reverse ++ zP o :: st) lay C nx (b'.1 + b''.1, b'.2 + b''.2) := by
  intro p e R s m args below meth c H locs cells slots mc ms ls α₀ lay₀ α cx he hw hL hs hz hlo hc hm hl
  have hne : (lay o).1 ≠ 0 := by rw [ho]; exact Nat.succ_ne_zero ci
  have hm1 : o ≠ -1 := fun q => hne (by rw [q]; exact hw.2.2.2.1)
  have hci := z_ci hr0
  obtain ⟨-, -, g3, g4, -, -, g7, g8⟩ := hw.2.2.2.2.1 o hne (by rw [ho]; show ci + 1 ≤ 102; omega)
  obtain ⟨cell, q1, q2, q3, q4⟩ := zcell_ob g7 ho hr0
  have hts := cx.2.2.2.2.2.1
  have hK := cx.2.2.2.2.2.2.2.2.2.1
  obtain ⟨hS, hfc, -⟩ := hK.1.1 ci _ hr0
  have ec : zcode k' = Cond.code k'.1 k'.2.1 k'.2.2.1 k'.2.2.2.1 := by unfold zcode; rw [if_pos hh]
  have hok : ∀ v ∈ zP o :: av, zok lay v := fun v hv => (List.mem_cons.mp hv).elim (fun e => by rw [e]; exact zok_P hne) (fun h => hs v (List.mem_append_left _ (List.mem_reverse.mpr h)))
  have hmap : (av.reverse ++ zP o :: st).map (zc α) = (av.map (zc α)).reverse ++ .ref (α o) :: st.map (zc α) := by rw [List.map_append, List.map_reverse, List.map_cons, zc_P α hm1]
  have hR3 := cx.2.2.2.2.2.2.2.2.2.2.2.2.1
  have hR4 := cx.2.2.2.2.2.2.2.2.2.2.2.2.2.1
  have hR5 := cx.2.2.2.2.2.2.2.2.2.2.2.2.2.2.1
  have hR6 := cx.2.2.2.2.2.2.2.2.2.2.2.2.2.2.2.1
  have h40 := hg.2.2.2.1
  simp only at hc hm
  rw [hmap]
  refine z_after (b' := b') (b'' := b'') (Q' := Q') hd.2 cx he hL (fun v hv => hs v (List.mem_append_right _ (List.mem_cons_of_mem _ hv))) hz hlo hc hm hl ?_ kk ?_
  · refine vx_runV (As := av.map (zc α)) (rest := st.map (zc α)) (C := k'.1.cls) (n := n) ⟨cx.1, cx.2.1, cx.2.2.1, cx.2.2.2.2.1, hts⟩ (hM D' α (Nat.le_refl _)) (cwV (ws' := zTg) n hts ?_ (by unfold zws; rw [ec]) rfl rfl ⟨rfl, hg.2.2.1.1, hg.2.2.1.2.1, hg.2.2.1.2.2⟩ ⟨by show D' + 1 ≤ R.frames; omega, by show 8 + (k'.2.2.1 + 11) + 64 * D' ≤ R.locals; omega⟩) ⟨zPc.blind, ⟨cell, q1, by rw [q3]; rfl, by rw [q2, ← hcl]; exact hfc⟩, fun U hU hW => ⟨?_, hok, by rw [hU]; exact hw, hK.warm hW, cx.2.2.2.2.2.2.2.2.2.2.2.2.2.2.2.2⟩⟩ rfl (by rw [List.length_map]; exact hn) hl.1 rfl (by show 2 * 0 + _ ≤ 8; have := zc_sum (α := α) st; omega) hd.1 ⟨by omega, by omega⟩
    · intro w hw9
      unfold wsV at hw9
      rcases List.mem_append.mp hw9 with h | h
      · have hx : w ∈ zTg := by
          simp only [List.mem_cons, List.not_mem_nil, or_false] at h
          rcases h with rfl | rfl | rfl | rfl
          · exact hl9.1
          · exact hl9.2.1
          · exact hl9.2.2
          · exact hg.2.2.2.2
        exact ⟨hx, good_of_word (zTg_good _ hx)⟩
      · exact zws_in hg w h
    · rw [List.map_cons, zc_P α hm1]
  · intro E lay' C' nx' H' locs' α' q9 ce hq hE hWR hsz hlo' hce hcv hcl9
    obtain ⟨hpc, ⟨pre, x, suf, t1, t2, t3, t4, t5, t6, t7⟩, hkk⟩ := kx E lay' C' nx' hq
    refine vx_catch (E := E) cx.2.2.2.2.1 pre x suf (by rw [cx.2.2.2.2.2.2.2.2.1, t1]) (fun z hz9 => ?_) t2 t3 (hts _ t4) (va_Nw.use rfl (hK.2.1 _ t5)) hce hcv hcl9 ?_
    · rcases t7 z hz9 with h | ⟨h1, nm, h2, h3⟩
      · exact Or.inl h
      · exact Or.inr ⟨h1, nm, hts _ h2, hK.2.2.2.2.2.2.2.1.1 _ h3⟩
    · rw [t6]
      exact hkk q9 p e R s m args below meth c H' locs' _ _ mc ms ls α₀ lay₀ α' cx (he.trans hE) hWR (fun v hv => (hL v hv).ext hE) (fun v hv => by rw [List.mem_singleton.mp hv]; exact zok_X) hsz hlo' (by omega) (by omega) (hl.ext hE hL)
/-- a static call of a method with handlers, out of one without -/
theorem z_callSX (hd : zD k pc (.invokestatic idx) 3 pc') (hk : k.2.2.2.2 = []) (hg : zGood k' n) (hh : k'.2.2.2.2 ≠ []) (hl9 : zSl k.1.cls idx k') (hM : zMM G D' k' av lay C nx b' Q') (hD : D' + 1 ≤ D) (hn : av.length = n) (hrest : st.length ≤ 4)
    (kk : ∀ (r : Option zAV) (lay' : zLay) (C' : zMem) (nx' : Int), Q' (.inl r) lay' C' nx' → zW G k D Q pc' L (r.toList ++ st) lay' C' nx' b'') (kx : ∀ (E : String) (lay' : zLay) (C' : zMem) (nx' : Int), Q' (.inr E) lay' C' nx' → Q (.inr E) lay' C' nx') :
    zW G k D Q pc L (av.reverse ++ st) lay C nx (b'.1 + b''.1, b'.2 + b''.2) := by
  intro p e R s m args below meth c H locs cells slots mc ms ls α₀ lay₀ α cx he hw hL hs hz hlo hc hm hl
  have hts := cx.2.2.2.2.2.1
  have hK := cx.2.2.2.2.2.2.2.2.2.1
  have ec : zcode k' = Cond.codeWith k'.1 k'.2.1 k'.2.2.1 k'.2.2.2.1 k'.2.2.2.2 := by unfold zcode; rw [if_neg hh]
  have hok : ∀ v ∈ av, zok lay v := fun v hv => hs v (List.mem_append_left _ (List.mem_reverse.mpr hv))
  have hmap : (av.reverse ++ st).map (zc α) = (av.map (zc α)).reverse ++ st.map (zc α) := by rw [List.map_append, List.map_reverse]
  have hR3 := cx.2.2.2.2.2.2.2.2.2.2.2.2.1
  have hR4 := cx.2.2.2.2.2.2.2.2.2.2.2.2.2.1
  have hR5 := cx.2.2.2.2.2.2.2.2.2.2.2.2.2.2.1
  have hR6 := cx.2.2.2.2.2.2.2.2.2.2.2.2.2.2.2.1
  have h40 := hg.2.2.2.1
  simp only at hc hm
  rw [hmap]
  refine z_after (b' := b') (b'' := b'') (Q' := Q') hd.2 cx he hL (fun v hv => hs v (List.mem_append_right _ hv)) hz hlo hc hm hl ?_ kk ?_
  · refine vx_runSX (hh := k'.2.2.2.2) (As := av.map (zc α)) (rest := st.map (zc α)) (n := n) ⟨cx.1, cx.2.1, cx.2.2.1, cx.2.2.2.2.1, hts⟩ (hM D' α (Nat.le_refl _)) (vx_cwSW (ws' := zTg) n hts ?_ (by unfold zws; rw [ec]) rfl rfl ⟨hg.2.2.1.1, hg.2.2.1.2.1, hg.2.2.1.2.2⟩ ⟨by show D' + 1 ≤ R.frames; omega, by show 8 + (k'.2.2.1 + 11) + 64 * D' ≤ R.locals; omega⟩) ⟨zPc.blind, fun U hU hW => ⟨rfl, hok, by rw [hU]; exact hw, hK.warm hW, cx.2.2.2.2.2.2.2.2.2.2.2.2.2.2.2.2⟩⟩ rfl (by rw [List.length_map]; exact hn) hl.1 rfl (by show 2 * 0 + _ ≤ 8; have := zc_sum (α := α) st; omega) hd.1 ⟨by omega, by omega⟩
    intro w hw9
    unfold va_wsS at hw9
    rcases List.mem_append.mp hw9 with h | h
    · have hx : w ∈ zTg := by
        simp only [List.mem_cons, List.not_mem_nil, or_false] at h
        rcases h with rfl | rfl | rfl
        · exact hl9.1
        · exact hl9.2
        · exact hg.2.2.2.2
      exact ⟨hx, good_of_word (zTg_good _ hx)⟩
    · exact zws_in hg w h
  · intro E lay' C' nx' H' locs' α' q9 ce hq hE hWR hsz hlo' hce hcv hcl9
    exact z_leave (L := L) (st := st) hk cx he (by omega) (by omega) E lay' C' nx' H' locs' α' q9 ce (kx E lay' C' nx' hq) hE hWR hsz hlo' hce hcv hcl9
end ZCAT
