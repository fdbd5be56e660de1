/-! Methods that leave their scratch behind: what they promise of the state they end in. -/
section ZXR
variable {G : zG} {k k' : zK} {D D' pc pc' idx ci : Nat} {Q : zQ} {L st : List zAV} {lay lay' : zLay} {C : zMem} {C0 : zMem} {nx nx' x : Int} {b : Nat × Nat} {own : String}
/-- ends with r, in a state of which P holds -/
def zX' (r : Option zAV) (P : zMem → Prop) (lay : zLay) (C0 : zMem) (nx x : Int) : zQ := fun o l c n => ∃ s : zMem, P s ∧ o = .inl r ∧ l = lay ∧ c = rC x s C0 ∧ n = nx
theorem zX'_no {r : Option zAV} {P : zMem → Prop} {lay : zLay} {C0 : zMem} {nx x : Int} : ∀ (E : String) (lay' : zLay) (C' : zMem) (nx' : Int), ¬ zX' r P lay C0 nx x (.inr E) lay' C' nx' := fun _ _ _ _ q => by obtain ⟨s, _, q, _⟩ := q; cases q
theorem z_V0x {P : zMem → Prop} {o nn : Int} {v : zAV} (hd : zD k pc (.invokevirtual idx) 3 pc') (hf : zVc own idx k' 0 ci) (hw : own = k.1.cls) (hk : k.2.2.2.2 = []) (hD : D' + 1 ≤ D) (hst : st.length ≤ 4) (ho : lay o = (ci + 1, nn)) (hM : zMM G D' k' [zP o] lay C nx (0, 0) (zX' (some v) P lay' C0 nx' x)) (w : ∀ s : zMem, P s → zW G k D Q pc' L (v :: st) lay' (rC x s C0) nx' b) : zW G k D Q pc L (zP o :: st) lay C nx b := by
  have h9 := z_V0q (L := L) (b'' := b) (Q := Q) hd hf hw hk hD hst ho hM (fun r l c m q => by obtain ⟨s, q0, q1, q2, q3, q4⟩ := q; have q5 := Sum.inl.inj q1; subst q5; subst q2; subst q3; subst q4; exact w s q0) (fun E l c m q => absurd q (zX'_no E l c m))
  rw [Nat.zero_add, Nat.zero_add] at h9
  exact h9
theorem z_V0vx {P : zMem → Prop} {o nn : Int} (hd : zD k pc (.invokevirtual idx) 3 pc') (hf : zVc own idx k' 0 ci) (hw : own = k.1.cls) (hk : k.2.2.2.2 = []) (hD : D' + 1 ≤ D) (hst : st.length ≤ 4) (ho : lay o = (ci + 1, nn)) (hM : zMM G D' k' [zP o] lay C nx (0, 0) (zX' none P lay' C0 nx' x)) (w : ∀ s : zMem, P s → zW G k D Q pc' L st lay' (rC x s C0) nx' b) : zW G k D Q pc L (zP o :: st) lay C nx b := by
  have h9 := z_V0q (L := L) (b'' := b) (Q := Q) hd hf hw hk hD hst ho hM (fun r l c m q => by obtain ⟨s, q0, q1, q2, q3, q4⟩ := q; have q5 := Sum.inl.inj q1; subst q5; subst q2; subst q3; subst q4; exact w s q0) (fun E l c m q => absurd q (zX'_no E l c m))
  rw [Nat.zero_add, Nat.zero_add] at h9
  exact h9
theorem z_V1x {a1 : zAV} {P : zMem → Prop} {o nn : Int} {v : zAV} (hd : zD k pc (.invokevirtual idx) 3 pc') (hf : zVc own idx k' 1 ci) (hw : own = k.1.cls) (hk : k.2.2.2.2 = []) (hD : D' + 1 ≤ D) (hst : st.length ≤ 4) (ho : lay o = (ci + 1, nn)) (hM : zMM G D' k' [zP o, a1] lay C nx (0, 0) (zX' (some v) P lay' C0 nx' x)) (w : ∀ s : zMem, P s → zW G k D Q pc' L (v :: st) lay' (rC x s C0) nx' b) : zW G k D Q pc L (a1 :: zP o :: st) lay C nx b := by
  have h9 := z_V1q (L := L) (b'' := b) (Q := Q) hd hf hw hk hD hst ho hM (fun r l c m q => by obtain ⟨s, q0, q1, q2, q3, q4⟩ := q; have q5 := Sum.inl.inj q1; subst q5; subst q2; subst q3; subst q4; exact w s q0) (fun E l c m q => absurd q (zX'_no E l c m))
  rw [Nat.zero_add, Nat.zero_add] at h9
  exact h9
theorem z_V1vx {a1 : zAV} {P : zMem → Prop} {o nn : Int} (hd : zD k pc (.invokevirtual idx) 3 pc') (hf : zVc own idx k' 1 ci) (hw : own = k.1.cls) (hk : k.2.2.2.2 = []) (hD : D' + 1 ≤ D) (hst : st.length ≤ 4) (ho : lay o = (ci + 1, nn)) (hM : zMM G D' k' [zP o, a1] lay C nx (0, 0) (zX' none P lay' C0 nx' x)) (w : ∀ s : zMem, P s → zW G k D Q pc' L st lay' (rC x s C0) nx' b) : zW G k D Q pc L (a1 :: zP o :: st) lay C nx b := by
  have h9 := z_V1q (L := L) (b'' := b) (Q := Q) hd hf hw hk hD hst ho hM (fun r l c m q => by obtain ⟨s, q0, q1, q2, q3, q4⟩ := q; have q5 := Sum.inl.inj q1; subst q5; subst q2; subst q3; subst q4; exact w s q0) (fun E l c m q => absurd q (zX'_no E l c m))
  rw [Nat.zero_add, Nat.zero_add] at h9
  exact h9
theorem z_V2x {a1 a2 : zAV} {P : zMem → Prop} {o nn : Int} {v : zAV} (hd : zD k pc (.invokevirtual idx) 3 pc') (hf : zVc own idx k' 2 ci) (hw : own = k.1.cls) (hk : k.2.2.2.2 = []) (hD : D' + 1 ≤ D) (hst : st.length ≤ 4) (ho : lay o = (ci + 1, nn)) (hM : zMM G D' k' [zP o, a1, a2] lay C nx (0, 0) (zX' (some v) P lay' C0 nx' x)) (w : ∀ s : zMem, P s → zW G k D Q pc' L (v :: st) lay' (rC x s C0) nx' b) : zW G k D Q pc L (a2 :: a1 :: zP o :: st) lay C nx b := by
  have h9 := z_V2q (L := L) (b'' := b) (Q := Q) hd hf hw hk hD hst ho hM (fun r l c m q => by obtain ⟨s, q0, q1, q2, q3, q4⟩ := q; have q5 := Sum.inl.inj q1; subst q5; subst q2; subst q3; subst q4; exact w s q0) (fun E l c m q => absurd q (zX'_no E l c m))
  rw [Nat.zero_add, Nat.zero_add] at h9
  exact h9
theorem z_V2vx {a1 a2 : zAV} {P : zMem → Prop} {o nn : Int} (hd : zD k pc (.invokevirtual idx) 3 pc') (hf : zVc own idx k' 2 ci) (hw : own = k.1.cls) (hk : k.2.2.2.2 = []) (hD : D' + 1 ≤ D) (hst : st.length ≤ 4) (ho : lay o = (ci + 1, nn)) (hM : zMM G D' k' [zP o, a1, a2] lay C nx (0, 0) (zX' none P lay' C0 nx' x)) (w : ∀ s : zMem, P s → zW G k D Q pc' L st lay' (rC x s C0) nx' b) : zW G k D Q pc L (a2 :: a1 :: zP o :: st) lay C nx b := by
  have h9 := z_V2q (L := L) (b'' := b) (Q := Q) hd hf hw hk hD hst ho hM (fun r l c m q => by obtain ⟨s, q0, q1, q2, q3, q4⟩ := q; have q5 := Sum.inl.inj q1; subst q5; subst q2; subst q3; subst q4; exact w s q0) (fun E l c m q => absurd q (zX'_no E l c m))
  rw [Nat.zero_add, Nat.zero_add] at h9
  exact h9
theorem z_V3x {a1 a2 a3 : zAV} {P : zMem → Prop} {o nn : Int} {v : zAV} (hd : zD k pc (.invokevirtual idx) 3 pc') (hf : zVc own idx k' 3 ci) (hw : own = k.1.cls) (hk : k.2.2.2.2 = []) (hD : D' + 1 ≤ D) (hst : st.length ≤ 4) (ho : lay o = (ci + 1, nn)) (hM : zMM G D' k' [zP o, a1, a2, a3] lay C nx (0, 0) (zX' (some v) P lay' C0 nx' x)) (w : ∀ s : zMem, P s → zW G k D Q pc' L (v :: st) lay' (rC x s C0) nx' b) : zW G k D Q pc L (a3 :: a2 :: a1 :: zP o :: st) lay C nx b := by
  have h9 := z_V3q (L := L) (b'' := b) (Q := Q) hd hf hw hk hD hst ho hM (fun r l c m q => by obtain ⟨s, q0, q1, q2, q3, q4⟩ := q; have q5 := Sum.inl.inj q1; subst q5; subst q2; subst q3; subst q4; exact w s q0) (fun E l c m q => absurd q (zX'_no E l c m))
  rw [Nat.zero_add, Nat.zero_add] at h9
  exact h9
theorem z_V3vx {a1 a2 a3 : zAV} {P : zMem → Prop} {o nn : Int} (hd : zD k pc (.invokevirtual idx) 3 pc') (hf : zVc own idx k' 3 ci) (hw : own = k.1.cls) (hk : k.2.2.2.2 = []) (hD : D' + 1 ≤ D) (hst : st.length ≤ 4) (ho : lay o = (ci + 1, nn)) (hM : zMM G D' k' [zP o, a1, a2, a3] lay C nx (0, 0) (zX' none P lay' C0 nx' x)) (w : ∀ s : zMem, P s → zW G k D Q pc' L st lay' (rC x s C0) nx' b) : zW G k D Q pc L (a3 :: a2 :: a1 :: zP o :: st) lay C nx b := by
  have h9 := z_V3q (L := L) (b'' := b) (Q := Q) hd hf hw hk hD hst ho hM (fun r l c m q => by obtain ⟨s, q0, q1, q2, q3, q4⟩ := q; have q5 := Sum.inl.inj q1; subst q5; subst q2; subst q3; subst q4; exact w s q0) (fun E l c m q => absurd q (zX'_no E l c m))
  rw [Nat.zero_add, Nat.zero_add] at h9
  exact h9
theorem z_V4x {a1 a2 a3 a4 : zAV} {P : zMem → Prop} {o nn : Int} {v : zAV} (hd : zD k pc (.invokevirtual idx) 3 pc') (hf : zVc own idx k' 4 ci) (hw : own = k.1.cls) (hk : k.2.2.2.2 = []) (hD : D' + 1 ≤ D) (hst : st.length ≤ 4) (ho : lay o = (ci + 1, nn)) (hM : zMM G D' k' [zP o, a1, a2, a3, a4] lay C nx (0, 0) (zX' (some v) P lay' C0 nx' x)) (w : ∀ s : zMem, P s → zW G k D Q pc' L (v :: st) lay' (rC x s C0) nx' b) : zW G k D Q pc L (a4 :: a3 :: a2 :: a1 :: zP o :: st) lay C nx b := by
  have h9 := z_V4q (L := L) (b'' := b) (Q := Q) hd hf hw hk hD hst ho hM (fun r l c m q => by obtain ⟨s, q0, q1, q2, q3, q4⟩ := q; have q5 := Sum.inl.inj q1; subst q5; subst q2; subst q3; subst q4; exact w s q0) (fun E l c m q => absurd q (zX'_no E l c m))
  rw [Nat.zero_add, Nat.zero_add] at h9
  exact h9
theorem z_V4vx {a1 a2 a3 a4 : zAV} {P : zMem → Prop} {o nn : Int} (hd : zD k pc (.invokevirtual idx) 3 pc') (hf : zVc own idx k' 4 ci) (hw : own = k.1.cls) (hk : k.2.2.2.2 = []) (hD : D' + 1 ≤ D) (hst : st.length ≤ 4) (ho : lay o = (ci + 1, nn)) (hM : zMM G D' k' [zP o, a1, a2, a3, a4] lay C nx (0, 0) (zX' none P lay' C0 nx' x)) (w : ∀ s : zMem, P s → zW G k D Q pc' L st lay' (rC x s C0) nx' b) : zW G k D Q pc L (a4 :: a3 :: a2 :: a1 :: zP o :: st) lay C nx b := by
  have h9 := z_V4q (L := L) (b'' := b) (Q := Q) hd hf hw hk hD hst ho hM (fun r l c m q => by obtain ⟨s, q0, q1, q2, q3, q4⟩ := q; have q5 := Sum.inl.inj q1; subst q5; subst q2; subst q3; subst q4; exact w s q0) (fun E l c m q => absurd q (zX'_no E l c m))
  rw [Nat.zero_add, Nat.zero_add] at h9
  exact h9
end ZXR
/-- the numbers that are no scratch -/
def zNs (j : Int) : Prop := j = 0 ∨ j = 3 ∨ j = 6 ∨ j = 8 ∨ j = 12 ∨ j = 25
/-- the scratch is in its bounds -/
def zJs (σ : zMem) : Prop := zFact (σ 6) ∧ (σ 0 15 = 0 ∨ σ 0 15 = 1) ∧ (σ 0 16 = 0 ∨ σ 0 16 = 1) ∧ (σ 0 18 = 0 ∨ σ 0 18 = 1) ∧ (σ 0 19 = 0 ∨ σ 0 19 = 1)
/-- s is σ but for scratch -/
def zScr (σ s : zMem) : Prop := (∀ j, zNs j → s 0 j = σ 0 j) ∧ (∀ o, o ≠ 0 → o ≠ 6 → s o = σ o) ∧ zJs s
theorem zScr.refl {σ : zMem} (h : zJs σ) : zScr σ σ := ⟨fun _ _ => rfl, fun _ _ _ => rfl, h⟩
theorem zScr.trans {σ s t : zMem} (h : zScr σ s) (h2 : zScr s t) : zScr σ t := ⟨fun j hj => (h2.1 j hj).trans (h.1 j hj), fun o h0 h6 => (h2.2.1 o h0 h6).trans (h.2.1 o h0 h6), h2.2.2⟩
theorem zScr.r1 {σ s : zMem} (h : zScr σ s) : s 1 = σ 1 := h.2.1 1 (by decide) (by decide)
theorem zScr.r3 {σ s : zMem} (h : zScr σ s) : s 3 = σ 3 := h.2.1 3 (by decide) (by decide)
theorem zScr.r5 {σ s : zMem} (h : zScr σ s) : s 5 = σ 5 := h.2.1 5 (by decide) (by decide)
theorem zScr.r7 {σ s : zMem} (h : zScr σ s) : s 7 = σ 7 := h.2.1 7 (by decide) (by decide)
theorem zScr.r8 {σ s : zMem} (h : zScr σ s) : s 8 = σ 8 := h.2.1 8 (by decide) (by decide)
theorem zScr.r9 {σ s : zMem} (h : zScr σ s) : s 9 = σ 9 := h.2.1 9 (by decide) (by decide)
theorem zScr.r10 {σ s : zMem} (h : zScr σ s) : s 10 = σ 10 := h.2.1 10 (by decide) (by decide)
theorem zScr.r11 {σ s : zMem} (h : zScr σ s) : s 11 = σ 11 := h.2.1 11 (by decide) (by decide)
theorem zScr.n0 {σ s : zMem} (h : zScr σ s) : s 0 0 = σ 0 0 := h.1 0 (by unfold zNs; omega)
theorem zScr.n6 {σ s : zMem} (h : zScr σ s) : s 0 6 = σ 0 6 := h.1 6 (by unfold zNs; omega)
theorem zScr.n8 {σ s : zMem} (h : zScr σ s) : s 0 8 = σ 0 8 := h.1 8 (by unfold zNs; omega)
theorem zScr.n12 {σ s : zMem} (h : zScr σ s) : s 0 12 = σ 0 12 := h.1 12 (by unfold zNs; omega)
theorem zScr.n25 {σ s : zMem} (h : zScr σ s) : s 0 25 = σ 0 25 := h.1 25 (by unfold zNs; omega)
theorem zJs.set {σ : zMem} (h : zJs σ) {o j v : Int} (ho : o ≠ 6) (hj : o = 0 → zNs j) : zJs (zset σ o j v) := by
  have hz : ∀ i : Int, i = 15 ∨ i = 16 ∨ i = 18 ∨ i = 19 → zset σ o j v 0 i = σ 0 i := fun i hi => by
    rw [zset_at, if_neg]
    intro z
    have := hj z.1.symm
    unfold zNs at this
    omega
  unfold zJs
  rw [zset_o (Ne.symm ho), hz 15 (by decide), hz 16 (by decide), hz 18 (by decide), hz 19 (by decide)]
  exact h
theorem zScr.set {σ s : zMem} (h : zScr σ s) {o j v : Int} (ho : o ≠ 6) (hj : o = 0 → zNs j) : zScr (zset σ o j v) (zset s o j v) := by
  refine ⟨fun i hi => ?_, fun p h0 h6 => ?_, h.2.2.set ho hj⟩
  · rw [zset_at, zset_at, h.1 i hi]
  · funext i; rw [zset_at, zset_at, h.2.1 p h0 h6]
theorem zScr.row {σ s : zMem} (h : zScr σ s) {o : Int} {A : Int → Int} (ho : o ≠ 6) (ho2 : o ≠ 0) : zScr (zRow σ o A) (zRow s o A) := by
  refine ⟨fun i hi => ?_, fun p h0 h6 => ?_, ?_⟩
  · rw [zRow_o (Ne.symm ho2), zRow_o (Ne.symm ho2), h.1 i hi]
  · by_cases e : p = o
    · rw [e, zRow_e, zRow_e]
    · rw [zRow_o e, zRow_o e, h.2.1 p h0 h6]
  · unfold zJs
    rw [zRow_o (Ne.symm ho), zRow_o (Ne.symm ho2)]
    exact h.2.2
theorem zset_10 {C : zMem} {j v : Int} : zset C 0 j v 1 = C 1 := zset_o (by decide)
theorem zset_16 {C : zMem} {j v : Int} : zset C 6 j v 1 = C 1 := zset_o (by decide)
