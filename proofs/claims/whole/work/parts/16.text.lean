/-! Texts: length and charAt. -/
theorem zcnar : ∀ n, n < 128 → narrow .char (.int (Int32.ofInt (n : Nat))) = .int (Int32.ofInt (n : Nat)) := by decide +kernel
section ZTXT
variable {G : zG} {k : zK} {D : Nat} {Q : zQ} {lay : zLay} {C : zMem} {nx : Int} {b : Nat × Nat} {av : List zAV}
variable {pc pc' : Nat} {L st : List zAV} {k' : zK} {n idx D' ci : Nat} {b' b'' : Nat × Nat} {Q' : zQ}
theorem z_callT {o nn : Int} (hd : zD k pc (.invokevirtual idx) 3 pc') (hk : k.2.2.2.2 = []) (hg : zGood k' n) (hh : k'.2.2.2.2 = []) (hl9 : zMl k.1.cls idx k') (hM : zMM G D' k' (zP o :: av) lay C nx b' Q') (hD : D' + 1 ≤ D) (ho : lay o = (104, nn)) (hcl : k'.1.cls = "java/lang/String") (hn : av.length = n) (hrest : st.length ≤ 4)
    (kk : ∀ (r : Option zAV) (lay' : zLay) (C' : zMem) (nx' : Int), Q' (.inl r) lay' C' nx' → zW G k D Q pc' L (r.toList ++ st) lay' C' nx' b'') (kx : ∀ (E : String) (lay' : zLay) (C' : zMem) (nx' : Int), Q' (.inr E) lay' C' nx' → Q (.inr E) lay' C' nx') :
    zW G k D Q pc L (av.reverse ++ zP o :: st) lay C nx (b'.1 + b''.1, b'.2 + b''.2) := by
  intro p e R s m args below meth c H locs cells slots mc ms ls α₀ lay₀ α cx he hw hL hs hz hlo hc hm hl
  have hne : (lay o).1 ≠ 0 := by rw [ho]; exact Nat.succ_ne_zero 103
  have hm1 : o ≠ -1 := fun q => hne (by rw [q]; exact hw.2.2.2.1)
  obtain ⟨tn, tq, u1, u2, u3, u4, u5⟩ := (hw.2.2.2.2.2.2.2.2 o).2.1 (by rw [ho])
  have hts := cx.2.2.2.2.2.1
  have hK := cx.2.2.2.2.2.2.2.2.2.1
  obtain ⟨cell, q1, q2, q3, -⟩ := ((hK.2.2.2.2.1 tn tq u2).2.1 0 (Nat.lt_succ_self 0)).1.kept (H1 := H) (fun a ha _ => hw.1 a ha)
  have ec : zcode k' = Cond.code k'.1 k'.2.1 k'.2.2.1 k'.2.2.2.1 := by unfold zcode; rw [if_pos hh]
  have hok : ∀ v ∈ zP o :: av, zok lay v := fun v hv => (List.mem_cons.mp hv).elim (fun e => by rw [e]; exact zok_P hne) (fun h => hs v (List.mem_append_left _ (List.mem_reverse.mpr h)))
  have hmap : (av.reverse ++ zP o :: st).map (zc α) = (av.map (zc α)).reverse ++ .ref (α o) :: st.map (zc α) := by rw [List.map_append, List.map_reverse, List.map_cons, zc_P α hm1]
  have hR3 := cx.2.2.2.2.2.2.2.2.2.2.2.2.1
  have hR4 := cx.2.2.2.2.2.2.2.2.2.2.2.2.2.1
  have hR5 := cx.2.2.2.2.2.2.2.2.2.2.2.2.2.2.1
  have hR6 := cx.2.2.2.2.2.2.2.2.2.2.2.2.2.2.2.1
  have h40 := hg.2.2.2.1
  simp only at hc hm
  rw [hmap]
  refine z_after (b' := b') (b'' := b'') (Q' := Q') hd.2 cx he hL (fun v hv => hs v (List.mem_append_right _ (List.mem_cons_of_mem _ hv))) hz hlo hc hm hl ?_ kk ?_
  · refine vx_runV (As := av.map (zc α)) (rest := st.map (zc α)) (C := k'.1.cls) (n := n) ⟨cx.1, cx.2.1, cx.2.2.1, cx.2.2.2.2.1, hts⟩ (hM D' α (Nat.le_refl _)) (cwV (ws' := zTg) n hts ?_ (by unfold zws; rw [ec]) rfl rfl ⟨rfl, hg.2.2.1.1, hg.2.2.1.2.1, hg.2.2.1.2.2⟩ ⟨by show D' + 1 ≤ R.frames; omega, by show 8 + (k'.2.2.1 + 11) + 64 * D' ≤ R.locals; omega⟩) ⟨zPc.blind, ⟨cell, by rw [u3]; exact q1, q2, by rw [hcl]; exact q3⟩, fun U hU hW => ⟨?_, hok, by rw [hU]; exact hw, hK.warm hW, cx.2.2.2.2.2.2.2.2.2.2.2.2.2.2.2.2⟩⟩ rfl (by rw [List.length_map]; exact hn) hl.1 rfl (by show 2 * 0 + _ ≤ 8; have := zc_sum (α := α) st; omega) hd.1 ⟨by omega, by omega⟩
    · intro w hw9
      unfold wsV at hw9
      rcases List.mem_append.mp hw9 with h | h
      · have hx : w ∈ zTg := by
          simp only [List.mem_cons, List.not_mem_nil, or_false] at h
          rcases h with rfl | rfl | rfl | rfl
          · exact hl9.1
          · exact hl9.2.1
          · exact hl9.2.2
          · exact hg.2.2.2.2
        exact ⟨hx, good_of_word (zTg_good _ hx)⟩
      · exact zws_in hg w h
    · rw [List.map_cons, zc_P α hm1]
  · intro E lay' C' nx' H' locs' α' q9 ce hq hE hWR hsz hlo' hce hcv hcl9
    exact z_leave (L := L) (st := st) hk cx he (by omega) (by omega) E lay' C' nx' H' locs' α' q9 ce (kx E lay' C' nx' hq) hE hWR hsz hlo' hce hcv hcl9

theorem z_creturn {x : Int} (hd : zD k pc .ireturn 1 pc') (hr : k.2.2.2.1 = some .char) (hx : 0 ≤ x ∧ x < 128) (h : Q (.inl (some (zI x))) lay C nx) : zW G k D Q pc L [zI x] lay C nx b := by
  intro p e R s m args below meth c H locs cells slots mc ms ls α₀ lay₀ α cx he hw hL hs hz hlo hc hm hl
  refine vx_ret (W.widen (k := mc) (n := ms) (by omega) (by omega) ?_)
  have hn := zcnar x.toNat (by omega)
  rw [Int.toNat_of_nonneg hx.1] at hn
  exact W.zret (v := Int32.ofInt x) (ty := .char) cx.1 cx.2.1 (by rw [cx.2.2.2.1, hr]) hn (fun t ht hW => ⟨some (zI x), lay, C, nx, α, rfl, h, by rw [ht]; exact hw, he, fun v q => by cases Option.some.inj q; exact zok_I, by rw [ht]; exact hz⟩) hlo hd.1 cx.2.2.2.2.2.2.1
theorem z_breturn0 (hd : zD k pc .ireturn 1 pc') (hr : k.2.2.2.1 = some .byte) (h : Q (.inl (some (zI 0))) lay C nx) : zW G k D Q pc L [zI 0] lay C nx b := by
  intro p e R s m args below meth c H locs cells slots mc ms ls α₀ lay₀ α cx he hw hL hs hz hlo hc hm hl
  refine vx_ret (W.widen (k := mc) (n := ms) (by omega) (by omega) ?_)
  exact W.zret (v := Int32.ofInt 0) (ty := .byte) cx.1 cx.2.1 (by rw [cx.2.2.2.1, hr]) rfl (fun t ht hW => ⟨some (zI 0), lay, C, nx, α, rfl, h, by rw [ht]; exact hw, he, fun v q => by cases Option.some.inj q; exact zok_I, by rw [ht]; exact hz⟩) hlo hd.1 cx.2.2.2.2.2.2.1
/-- the byte array of text t, and its coder -/
theorem z_strval {o nn : Int} {t : Nat} (hd : zD k pc (.getfield idx) 3 pc') (hk : k.1.cls = "java/lang/String") (hl9 : Cond.fieldLink "java/lang/String" idx "java/lang/String" "value" "[B" ∈ zTg) (ho : lay o = (104, nn)) (hot : o = -10 - (t : Int)) (hb9 : (lay (-1000 - (t : Int))).1 = 105) (w : zW G k D Q pc' L (zP (-1000 - (t : Int)) :: st) lay C nx b) : zW G k D Q pc L (zP o :: st) lay C nx b := by
  intro p e R s m args below meth c H locs cells slots mc ms ls α₀ lay₀ α cx he hw hL hs hz hlo hc hm hl
  have hne : (lay o).1 ≠ 0 := by rw [ho]; exact Nat.succ_ne_zero 103
  have hm1 : o ≠ -1 := fun q => hne (by rw [q]; exact hw.2.2.2.1)
  obtain ⟨tn, tq, u1, u2, u3, u4, u5⟩ := (hw.2.2.2.2.2.2.2.2 o).2.1 (by rw [ho])
  obtain ⟨tm, tr, v1, v2, v3, v4, v5⟩ := (hw.2.2.2.2.2.2.2.2 (-1000 - (t : Int))).2.2 hb9
  have e1 : t = tn := by omega
  have e2 : t = tm := by omega
  subst e1; subst e2
  have hK := cx.2.2.2.2.2.2.2.2.2.1
  obtain ⟨cf, kf, fi, f, cell, h1, h2, h3, h4, h5, h6⟩ := ((hK.2.2.2.2.1 t tq u2).2.1 0 (Nat.lt_succ_self 0)).2.2.1.kept (H1 := H) (fun a ha _ => hw.1 a ha)
  rw [List.map_cons, zc_P α hm1, u3]
  refine W.getf (own := "java/lang/String") cx.1 cx.2.1 (by rw [← hk]; exact cx.2.2.2.2.1) (cx.2.2.2.2.2.1 _ hl9) h1 h2 h3 h4 h5 rfl rfl hd.1 ?_
  show W _ _ _ _ _ _ _ _ _ _ _ _ _ _ _ (F0 m (pc + 3) ls (.ref (G.2.2.2.2.2.2 t) :: st.map (zc α)))
  rw [hd.2]
  have kk := w p e R s m args below meth c H locs cells slots mc ms ls α₀ lay₀ α cx he hw hL (zok_c (zok_P (by rw [hb9]; exact Nat.succ_ne_zero _)) (zok_t hs)) hz hlo hc hm hl
  rw [List.map_cons, zc_P α (by omega), v3] at kk
  exact kk
theorem z_strcod {o nn : Int} (hd : zD k pc (.getfield idx) 3 pc') (hk : k.1.cls = "java/lang/String") (hl9 : Cond.fieldLink "java/lang/String" idx "java/lang/String" "coder" "B" ∈ zTg) (ho : lay o = (104, nn)) (w : zW G k D Q pc' L (zI 0 :: st) lay C nx b) : zW G k D Q pc L (zP o :: st) lay C nx b := by
  intro p e R s m args below meth c H locs cells slots mc ms ls α₀ lay₀ α cx he hw hL hs hz hlo hc hm hl
  have hne : (lay o).1 ≠ 0 := by rw [ho]; exact Nat.succ_ne_zero 103
  have hm1 : o ≠ -1 := fun q => hne (by rw [q]; exact hw.2.2.2.1)
  obtain ⟨tn, tq, u1, u2, u3, u4, u5⟩ := (hw.2.2.2.2.2.2.2.2 o).2.1 (by rw [ho])
  have hK := cx.2.2.2.2.2.2.2.2.2.1
  obtain ⟨cf, kf, fi, f, cell, h1, h2, h3, h4, h5, h6⟩ := ((hK.2.2.2.2.1 tn tq u2).2.1 0 (Nat.lt_succ_self 0)).2.1.kept (H1 := H) (fun a ha _ => hw.1 a ha)
  rw [List.map_cons, zc_P α hm1, u3]
  refine W.getf (own := "java/lang/String") cx.1 cx.2.1 (by rw [← hk]; exact cx.2.2.2.2.1) (cx.2.2.2.2.2.1 _ hl9) h1 h2 h3 h4 h5 rfl rfl hd.1 ?_
  show W _ _ _ _ _ _ _ _ _ _ _ _ _ _ _ (F0 m (pc + 3) ls (.int 0 :: st.map (zc α)))
  rw [hd.2]
  exact w p e R s m args below meth c H locs cells slots mc ms ls α₀ lay₀ α cx he hw hL (zok_c zok_I (zok_t hs)) hz hlo hc hm hl
theorem z_compact (hd : zD k pc (.getstatic idx) 3 pc') (hk : k.1.cls = "java/lang/String") (hl9 : Cond.fieldLink "java/lang/String" idx "java/lang/String" "COMPACT_STRINGS" "Z" ∈ zTg) (w : zW G k D Q pc' L (zI 1 :: st) lay C nx b) : zW G k D Q pc L st lay C nx b := by
  intro p e R s m args below meth c H locs cells slots mc ms ls α₀ lay₀ α cx he hw hL hs hz hlo hc hm hl
  have hK := cx.2.2.2.2.2.2.2.2.2.1
  obtain ⟨cf, kf, fi, f, a, cell, h1, h2, h3, h4, h5, h6, h7, h8⟩ := hK.2.2.2.2.2.2.2.2.1
  refine W.gets (own := "java/lang/String") cx.1 cx.2.1 (by rw [← hk]; exact cx.2.2.2.2.1) (cx.2.2.2.2.2.1 _ hl9) h1 h2 h3 h4 (by rw [hw.1 a (Array.getElem?_eq_some_iff.mp h5).1]; exact h5) (fun e => by rw [e] at h6; cases h6) h7 rfl hd.1 ?_
  show W _ _ _ _ _ _ _ _ _ _ _ _ _ _ _ (F0 m (pc + 3) ls (.int 1 :: st.map (zc α)))
  rw [hd.2]
  exact w p e R s m args below meth c H locs cells slots mc ms ls α₀ lay₀ α cx he hw hL (zok_c zok_I hs) hz hlo hc hm hl
theorem z_sioobe (hd : zD k pc (.getstatic idx) 3 pc') (hk : k.1.cls = "java/lang/String") (hl9 : Cond.fieldLink "java/lang/String" idx "jdk/internal/util/Preconditions" "SIOOBE_FORMATTER" "Ljava/util/function/BiFunction;" ∈ zTg) (w : ∀ v : zAV, (v = zP (-1) ∨ ∃ t : Nat, v = zX t) → zW G k D Q pc' L (v :: st) lay C nx b) : zW G k D Q pc L st lay C nx b := by
  intro p e R s m args below meth c H locs cells slots mc ms ls α₀ lay₀ α cx he hw hL hs hz hlo hc hm hl
  have hK := cx.2.2.2.2.2.2.2.2.2.1
  rcases hK.2.2.2.2.2.2.2.2.2 with hv | ⟨t, hv⟩
  · obtain ⟨cf, kf, fi, f, a, cell, h1, h2, h3, h4, h5, h6, h7, h8⟩ := hv
    refine W.gets (own := "java/lang/String") cx.1 cx.2.1 (by rw [← hk]; exact cx.2.2.2.2.1) (cx.2.2.2.2.2.1 _ hl9) h1 h2 h3 h4 (by rw [hw.1 a (Array.getElem?_eq_some_iff.mp h5).1]; exact h5) (fun e => by rw [e] at h6; cases h6) h7 rfl hd.1 ?_
    show W _ _ _ _ _ _ _ _ _ _ _ _ _ _ _ (F0 m (pc + 3) ls (.null :: st.map (zc α)))
    rw [hd.2]
    exact w (zP (-1)) (Or.inl rfl) p e R s m args below meth c H locs cells slots mc ms ls α₀ lay₀ α cx he hw hL (zok_c zok_N hs) hz hlo hc hm hl
  · obtain ⟨cf, kf, fi, f, a, cell, h1, h2, h3, h4, h5, h6, h7, h8⟩ := hv
    refine W.gets (own := "java/lang/String") cx.1 cx.2.1 (by rw [← hk]; exact cx.2.2.2.2.1) (cx.2.2.2.2.2.1 _ hl9) h1 h2 h3 h4 (by rw [hw.1 a (Array.getElem?_eq_some_iff.mp h5).1]; exact h5) (fun e => by rw [e] at h6; cases h6) h7 rfl hd.1 ?_
    show W _ _ _ _ _ _ _ _ _ _ _ _ _ _ _ (F0 m (pc + 3) ls (.ref t :: st.map (zc α)))
    rw [hd.2]
    exact w (zX t) (Or.inr ⟨t, rfl⟩) p e R s m args below meth c H locs cells slots mc ms ls α₀ lay₀ α cx he hw hL (zok_c zok_X hs) hz hlo hc hm hl
theorem z_blen {o n : Int} (hd : zD k pc .arraylength 1 pc') (ho : lay o = (105, n)) (w : zW G k D Q pc' L (zI n :: st) lay C nx b) : zW G k D Q pc L (zP o :: st) lay C nx b := by
  intro p e R s m args below meth c H locs cells slots mc ms ls α₀ lay₀ α cx he hw hL hs hz hlo hc hm hl
  have hne : (lay o).1 ≠ 0 := by rw [ho]; exact Nat.succ_ne_zero 104
  have hm1 : o ≠ -1 := fun q => hne (by rw [q]; exact hw.2.2.2.1)
  obtain ⟨tn, tq, u1, u2, u3, u4, u5⟩ := (hw.2.2.2.2.2.2.2.2 o).2.2 (by rw [ho])
  rw [ho] at u4
  have u4 : n = (tq.2.2.2.length : Int) := u4
  have hK := cx.2.2.2.2.2.2.2.2.2.1
  obtain ⟨cell, h1, h2, h3, h4, h5, h6, h7⟩ := ((hK.2.2.2.2.1 tn tq u2).2.1 0 (Nat.lt_succ_self 0)).2.2.2.kept (H1 := H) (fun a ha _ => hw.1 a ha)
  rw [List.map_cons, zc_P α hm1, u3]
  refine W.alen (n := Int32.ofInt n) cx.1 cx.2.1 h1 h2 (by rw [h5, u4]; rfl) rfl rfl hd.1 ?_
  show W _ _ _ _ _ _ _ _ _ _ _ _ _ _ _ (F0 m (pc + 1) ls _)
  rw [hd.2]
  exact w p e R s m args below meth c H locs cells slots mc ms ls α₀ lay₀ α cx he hw hL (zok_c zok_I (zok_t hs)) hz hlo hc hm hl
theorem z_baload {o i n : Int} (hd : zD k pc .baload 1 pc') (ho : lay o = (105, n)) (hi : 0 ≤ i ∧ i < n) (hn : n < 2147483648) (w : zW G k D Q pc' L (zI (C o i) :: st) lay C nx b) : zW G k D Q pc L (zI i :: zP o :: st) lay C nx b := by
  intro p e R s m args below meth c H locs cells slots mc ms ls α₀ lay₀ α cx he hw hL hs hz hlo hc hm hl
  have hne : (lay o).1 ≠ 0 := by rw [ho]; exact Nat.succ_ne_zero 104
  have hm1 : o ≠ -1 := fun q => hne (by rw [q]; exact hw.2.2.2.1)
  obtain ⟨tn, tq, u1, u2, u3, u4, u5⟩ := (hw.2.2.2.2.2.2.2.2 o).2.2 (by rw [ho])
  rw [ho] at u4
  have u4 : n = (tq.2.2.2.length : Int) := u4
  have hK := cx.2.2.2.2.2.2.2.2.2.1
  obtain ⟨cell, h1, h2, h3, h4, h5, h6, h7⟩ := ((hK.2.2.2.2.1 tn tq u2).2.1 0 (Nat.lt_succ_self 0)).2.2.2.kept (H1 := H) (fun a ha _ => hw.1 a ha)
  rw [List.map_cons, List.map_cons, zc_P α hm1, u3]
  have hlt : i.toNat < tq.2.2.2.length := by omega
  have e9 := u5 i.toNat hlt
  rw [Int.toNat_of_nonneg hi.1] at e9
  have hv := h6 i.toNat (by show i.toNat < ([tq.2.2.2.length] : List Nat).getD 0 0; exact hlt)
  have h4 : tq.2.2.2.length ≤ cell.slots.size := h4
  refine W.bald (v := .int (Int32.ofInt (C o i))) cx.1 cx.2.1 h1 h2 h3 (by
    rw [znat hi.1 (by omega)]
    rintro (q | q)
    · exact znneg ⟨hi.1, by omega⟩ q
    · omega) (by
    rw [znat hi.1 (by omega), hv, e9]
    show some (Value.int ((tq.2.2.2.map Int32.ofInt).getD i.toNat 0)) = _
    rw [List.getD_eq_getElem?_getD, List.getD_eq_getElem?_getD, List.getElem?_map, List.getElem?_eq_getElem hlt]
    rfl) rfl rfl hd.1 ?_
  show W _ _ _ _ _ _ _ _ _ _ _ _ _ _ _ (F0 m (pc + 1) ls _)
  rw [hd.2]
  exact w p e R s m args below meth c H locs cells slots mc ms ls α₀ lay₀ α cx he hw hL (zok_c zok_I (zok_t (zok_t hs))) hz hlo hc hm hl
theorem zcc : ∀ n, n < 128 → ((Int32.ofInt (n : Nat)).toUInt32 % 65536).toInt32 = Int32.ofInt (n : Nat) := by decide +kernel
theorem z_i2c {x : Int} (hd : zD k pc .i2c 1 pc') (h : 0 ≤ x ∧ x < 128) (w : zW G k D Q pc' L (zI x :: st) lay C nx b) : zW G k D Q pc L (zI x :: st) lay C nx b := by
  refine zW.go (fun hL hs => hs) ?_ w
  intro p e R s m args below meth c H locs cells slots mc ms ls α Qf cx hs hl w
  rw [← hd.2] at w
  refine lv_i2c cx.1 cx.2.1 hd.1 ?_ w
  have := zcc x.toNat (by omega)
  rwa [Int.toNat_of_nonneg h.1] at this
/-- a text's constant -/
theorem z_ldcS {t : Nat} {q : String × Nat × String × List Int} (hd : zD k pc (.ldc idx) 2 pc') (hk : q.1 = k.1.cls) (hi : q.2.1 = idx) (hq : zStr[t]? = some q) (hl9 : (lay (-10 - (t : Int))).1 = 104) (w : zW G k D Q pc' L (zP (-10 - (t : Int)) :: st) lay C nx b) : zW G k D Q pc L st lay C nx b := by
  subst hi
  intro p e R s m args below meth c H locs cells slots mc ms ls α₀ lay₀ α cx he hw hL hs hz hlo hc hm hl
  obtain ⟨tn, tq, u1, u2, u3, u4, u5⟩ := (hw.2.2.2.2.2.2.2.2 (-10 - (t : Int))).2.1 hl9
  have e1 : t = tn := by omega
  subst e1
  have hK := cx.2.2.2.2.2.2.2.2.2.1
  refine va_ldcS (own := q.1) cx.1 cx.2.1 (by rw [hk]; exact cx.2.2.2.2.1) (hK.2.2.2.2.1 t q hq).1 hd.1 ?_
  rw [hd.2]
  have kk := w p e R s m args below meth c H locs cells slots mc ms ls α₀ lay₀ α cx he hw hL (zok_c (zok_P (by rw [hl9]; exact Nat.succ_ne_zero _)) hs) hz hlo hc hm hl
  rw [List.map_cons, zc_P α (by omega), u3] at kk
  exact kk
end ZTXT
