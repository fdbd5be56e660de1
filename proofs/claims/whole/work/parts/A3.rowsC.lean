/-! Methods of the class: what they promise of the state they end in. -/
section ZYR
variable {G : zG} {k k' : zK} {D D' pc pc' idx ci : Nat} {Q : zQ} {L st : List zAV} {lay lay' : zLay} {C : zMem} {C0 : zMem} {nx nx' x : Int} {b : Nat × Nat} {own : String}
/-- ends with r, in a state (of the class, of the rest) of which P holds -/
def zY' (r : Option zAV) (P : zMem → zMem → Prop) (lay : zLay) (nx x : Int) : zQ := fun o l c n => ∃ s C' : zMem, P s C' ∧ o = .inl r ∧ l = lay ∧ c = tC x s C' ∧ n = nx
theorem zY'_no {r : Option zAV} {P : zMem → zMem → Prop} {lay : zLay} {nx x : Int} : ∀ (E : String) (lay' : zLay) (C' : zMem) (nx' : Int), ¬ zY' r P lay nx x (.inr E) lay' C' nx' := fun _ _ _ _ q => by obtain ⟨s, _, _, q, _⟩ := q; cases q
/-- the rest is as it was -/
def zZ' (r : Option zAV) (P : zMem → Prop) (lay : zLay) (C0 : zMem) (nx x : Int) : zQ := zY' r (fun s C' => C' = C0 ∧ P s) lay nx x
theorem zZe {P : zMem → Prop} {lay : zLay} {s C0 : zMem} {nx x v w : Int} (h : P s) (e : v = w) : zZ' (some (zI w)) P lay C0 nx x (.inl (some (zI v))) lay (tC x s C0) nx := ⟨s, C0, ⟨rfl, h⟩, by rw [e], rfl, rfl, rfl⟩
theorem zZv {P : zMem → Prop} {lay : zLay} {s C0 : zMem} {nx x : Int} (h : P s) : zZ' none P lay C0 nx x (.inl none) lay (tC x s C0) nx := ⟨s, C0, ⟨rfl, h⟩, rfl, rfl, rfl, rfl⟩
theorem zYe {P : zMem → zMem → Prop} {lay : zLay} {s C0 : zMem} {nx x v w : Int} (h : P s C0) (e : v = w) : zY' (some (zI w)) P lay nx x (.inl (some (zI v))) lay (tC x s C0) nx := ⟨s, C0, h, by rw [e], rfl, rfl, rfl⟩
theorem zYv {P : zMem → zMem → Prop} {lay : zLay} {s C0 : zMem} {nx x : Int} (h : P s C0) : zY' none P lay nx x (.inl none) lay (tC x s C0) nx := ⟨s, C0, h, rfl, rfl, rfl, rfl⟩
theorem z_V0y {P : zMem → zMem → Prop} {o nn : Int} {v : zAV} (hd : zD k pc (.invokevirtual idx) 3 pc') (hf : zVc own idx k' 0 ci) (hw : own = k.1.cls) (hk : k.2.2.2.2 = []) (hD : D' + 1 ≤ D) (hst : st.length ≤ 4) (ho : lay o = (ci + 1, nn)) (hM : zMM G D' k' [zP o] lay C nx (0, 0) (zY' (some v) P lay' nx' x)) (w : ∀ s C' : zMem, P s C' → zW G k D Q pc' L (v :: st) lay' (tC x s C') nx' b) : zW G k D Q pc L (zP o :: st) lay C nx b := by
  have h9 := z_V0q (L := L) (b'' := b) (Q := Q) hd hf hw hk hD hst ho hM (fun r l c m q => by obtain ⟨s, C9, q0, q1, q2, q3, q4⟩ := q; have q5 := Sum.inl.inj q1; subst q5; subst q2; subst q3; subst q4; exact w s C9 q0) (fun E l c m q => absurd q (zY'_no E l c m))
  rw [Nat.zero_add, Nat.zero_add] at h9
  exact h9
theorem z_V0z {P : zMem → Prop} {o nn : Int} {v : zAV} (hd : zD k pc (.invokevirtual idx) 3 pc') (hf : zVc own idx k' 0 ci) (hw : own = k.1.cls) (hk : k.2.2.2.2 = []) (hD : D' + 1 ≤ D) (hst : st.length ≤ 4) (ho : lay o = (ci + 1, nn)) (hM : zMM G D' k' [zP o] lay C nx (0, 0) (zZ' (some v) P lay' C0 nx' x)) (w : ∀ s : zMem, P s → zW G k D Q pc' L (v :: st) lay' (tC x s C0) nx' b) : zW G k D Q pc L (zP o :: st) lay C nx b := by
  have h9 := z_V0q (L := L) (b'' := b) (Q := Q) hd hf hw hk hD hst ho hM (fun r l c m q => by obtain ⟨s, C9, ⟨q6, q0⟩, q1, q2, q3, q4⟩ := q; subst q6; have q5 := Sum.inl.inj q1; subst q5; subst q2; subst q3; subst q4; exact w s q0) (fun E l c m q => absurd q (zY'_no E l c m))
  rw [Nat.zero_add, Nat.zero_add] at h9
  exact h9
theorem z_V0vy {P : zMem → zMem → Prop} {o nn : Int} (hd : zD k pc (.invokevirtual idx) 3 pc') (hf : zVc own idx k' 0 ci) (hw : own = k.1.cls) (hk : k.2.2.2.2 = []) (hD : D' + 1 ≤ D) (hst : st.length ≤ 4) (ho : lay o = (ci + 1, nn)) (hM : zMM G D' k' [zP o] lay C nx (0, 0) (zY' none P lay' nx' x)) (w : ∀ s C' : zMem, P s C' → zW G k D Q pc' L st lay' (tC x s C') nx' b) : zW G k D Q pc L (zP o :: st) lay C nx b := by
  have h9 := z_V0q (L := L) (b'' := b) (Q := Q) hd hf hw hk hD hst ho hM (fun r l c m q => by obtain ⟨s, C9, q0, q1, q2, q3, q4⟩ := q; have q5 := Sum.inl.inj q1; subst q5; subst q2; subst q3; subst q4; exact w s C9 q0) (fun E l c m q => absurd q (zY'_no E l c m))
  rw [Nat.zero_add, Nat.zero_add] at h9
  exact h9
theorem z_V0vz {P : zMem → Prop} {o nn : Int} (hd : zD k pc (.invokevirtual idx) 3 pc') (hf : zVc own idx k' 0 ci) (hw : own = k.1.cls) (hk : k.2.2.2.2 = []) (hD : D' + 1 ≤ D) (hst : st.length ≤ 4) (ho : lay o = (ci + 1, nn)) (hM : zMM G D' k' [zP o] lay C nx (0, 0) (zZ' none P lay' C0 nx' x)) (w : ∀ s : zMem, P s → zW G k D Q pc' L st lay' (tC x s C0) nx' b) : zW G k D Q pc L (zP o :: st) lay C nx b := by
  have h9 := z_V0q (L := L) (b'' := b) (Q := Q) hd hf hw hk hD hst ho hM (fun r l c m q => by obtain ⟨s, C9, ⟨q6, q0⟩, q1, q2, q3, q4⟩ := q; subst q6; have q5 := Sum.inl.inj q1; subst q5; subst q2; subst q3; subst q4; exact w s q0) (fun E l c m q => absurd q (zY'_no E l c m))
  rw [Nat.zero_add, Nat.zero_add] at h9
  exact h9
theorem z_V1y {a1 : zAV} {P : zMem → zMem → Prop} {o nn : Int} {v : zAV} (hd : zD k pc (.invokevirtual idx) 3 pc') (hf : zVc own idx k' 1 ci) (hw : own = k.1.cls) (hk : k.2.2.2.2 = []) (hD : D' + 1 ≤ D) (hst : st.length ≤ 4) (ho : lay o = (ci + 1, nn)) (hM : zMM G D' k' [zP o, a1] lay C nx (0, 0) (zY' (some v) P lay' nx' x)) (w : ∀ s C' : zMem, P s C' → zW G k D Q pc' L (v :: st) lay' (tC x s C') nx' b) : zW G k D Q pc L (a1 :: zP o :: st) lay C nx b := by
  have h9 := z_V1q (L := L) (b'' := b) (Q := Q) hd hf hw hk hD hst ho hM (fun r l c m q => by obtain ⟨s, C9, q0, q1, q2, q3, q4⟩ := q; have q5 := Sum.inl.inj q1; subst q5; subst q2; subst q3; subst q4; exact w s C9 q0) (fun E l c m q => absurd q (zY'_no E l c m))
  rw [Nat.zero_add, Nat.zero_add] at h9
  exact h9
theorem z_V1z {a1 : zAV} {P : zMem → Prop} {o nn : Int} {v : zAV} (hd : zD k pc (.invokevirtual idx) 3 pc') (hf : zVc own idx k' 1 ci) (hw : own = k.1.cls) (hk : k.2.2.2.2 = []) (hD : D' + 1 ≤ D) (hst : st.length ≤ 4) (ho : lay o = (ci + 1, nn)) (hM : zMM G D' k' [zP o, a1] lay C nx (0, 0) (zZ' (some v) P lay' C0 nx' x)) (w : ∀ s : zMem, P s → zW G k D Q pc' L (v :: st) lay' (tC x s C0) nx' b) : zW G k D Q pc L (a1 :: zP o :: st) lay C nx b := by
  have h9 := z_V1q (L := L) (b'' := b) (Q := Q) hd hf hw hk hD hst ho hM (fun r l c m q => by obtain ⟨s, C9, ⟨q6, q0⟩, q1, q2, q3, q4⟩ := q; subst q6; have q5 := Sum.inl.inj q1; subst q5; subst q2; subst q3; subst q4; exact w s q0) (fun E l c m q => absurd q (zY'_no E l c m))
  rw [Nat.zero_add, Nat.zero_add] at h9
  exact h9
theorem z_V1vy {a1 : zAV} {P : zMem → zMem → Prop} {o nn : Int} (hd : zD k pc (.invokevirtual idx) 3 pc') (hf : zVc own idx k' 1 ci) (hw : own = k.1.cls) (hk : k.2.2.2.2 = []) (hD : D' + 1 ≤ D) (hst : st.length ≤ 4) (ho : lay o = (ci + 1, nn)) (hM : zMM G D' k' [zP o, a1] lay C nx (0, 0) (zY' none P lay' nx' x)) (w : ∀ s C' : zMem, P s C' → zW G k D Q pc' L st lay' (tC x s C') nx' b) : zW G k D Q pc L (a1 :: zP o :: st) lay C nx b := by
  have h9 := z_V1q (L := L) (b'' := b) (Q := Q) hd hf hw hk hD hst ho hM (fun r l c m q => by obtain ⟨s, C9, q0, q1, q2, q3, q4⟩ := q; have q5 := Sum.inl.inj q1; subst q5; subst q2; subst q3; subst q4; exact w s C9 q0) (fun E l c m q => absurd q (zY'_no E l c m))
  rw [Nat.zero_add, Nat.zero_add] at h9
  exact h9
theorem z_V1vz {a1 : zAV} {P : zMem → Prop} {o nn : Int} (hd : zD k pc (.invokevirtual idx) 3 pc') (hf : zVc own idx k' 1 ci) (hw : own = k.1.cls) (hk : k.2.2.2.2 = []) (hD : D' + 1 ≤ D) (hst : st.length ≤ 4) (ho : lay o = (ci + 1, nn)) (hM : zMM G D' k' [zP o, a1] lay C nx (0, 0) (zZ' none P lay' C0 nx' x)) (w : ∀ s : zMem, P s → zW G k D Q pc' L st lay' (tC x s C0) nx' b) : zW G k D Q pc L (a1 :: zP o :: st) lay C nx b := by
  have h9 := z_V1q (L := L) (b'' := b) (Q := Q) hd hf hw hk hD hst ho hM (fun r l c m q => by obtain ⟨s, C9, ⟨q6, q0⟩, q1, q2, q3, q4⟩ := q; subst q6; have q5 := Sum.inl.inj q1; subst q5; subst q2; subst q3; subst q4; exact w s q0) (fun E l c m q => absurd q (zY'_no E l c m))
  rw [Nat.zero_add, Nat.zero_add] at h9
  exact h9
theorem z_V2y {a1 a2 : zAV} {P : zMem → zMem → Prop} {o nn : Int} {v : zAV} (hd : zD k pc (.invokevirtual idx) 3 pc') (hf : zVc own idx k' 2 ci) (hw : own = k.1.cls) (hk : k.2.2.2.2 = []) (hD : D' + 1 ≤ D) (hst : st.length ≤ 4) (ho : lay o = (ci + 1, nn)) (hM : zMM G D' k' [zP o, a1, a2] lay C nx (0, 0) (zY' (some v) P lay' nx' x)) (w : ∀ s C' : zMem, P s C' → zW G k D Q pc' L (v :: st) lay' (tC x s C') nx' b) : zW G k D Q pc L (a2 :: a1 :: zP o :: st) lay C nx b := by
  have h9 := z_V2q (L := L) (b'' := b) (Q := Q) hd hf hw hk hD hst ho hM (fun r l c m q => by obtain ⟨s, C9, q0, q1, q2, q3, q4⟩ := q; have q5 := Sum.inl.inj q1; subst q5; subst q2; subst q3; subst q4; exact w s C9 q0) (fun E l c m q => absurd q (zY'_no E l c m))
  rw [Nat.zero_add, Nat.zero_add] at h9
  exact h9
theorem z_V2z {a1 a2 : zAV} {P : zMem → Prop} {o nn : Int} {v : zAV} (hd : zD k pc (.invokevirtual idx) 3 pc') (hf : zVc own idx k' 2 ci) (hw : own = k.1.cls) (hk : k.2.2.2.2 = []) (hD : D' + 1 ≤ D) (hst : st.length ≤ 4) (ho : lay o = (ci + 1, nn)) (hM : zMM G D' k' [zP o, a1, a2] lay C nx (0, 0) (zZ' (some v) P lay' C0 nx' x)) (w : ∀ s : zMem, P s → zW G k D Q pc' L (v :: st) lay' (tC x s C0) nx' b) : zW G k D Q pc L (a2 :: a1 :: zP o :: st) lay C nx b := by
  have h9 := z_V2q (L := L) (b'' := b) (Q := Q) hd hf hw hk hD hst ho hM (fun r l c m q => by obtain ⟨s, C9, ⟨q6, q0⟩, q1, q2, q3, q4⟩ := q; subst q6; have q5 := Sum.inl.inj q1; subst q5; subst q2; subst q3; subst q4; exact w s q0) (fun E l c m q => absurd q (zY'_no E l c m))
  rw [Nat.zero_add, Nat.zero_add] at h9
  exact h9
theorem z_V2vy {a1 a2 : zAV} {P : zMem → zMem → Prop} {o nn : Int} (hd : zD k pc (.invokevirtual idx) 3 pc') (hf : zVc own idx k' 2 ci) (hw : own = k.1.cls) (hk : k.2.2.2.2 = []) (hD : D' + 1 ≤ D) (hst : st.length ≤ 4) (ho : lay o = (ci + 1, nn)) (hM : zMM G D' k' [zP o, a1, a2] lay C nx (0, 0) (zY' none P lay' nx' x)) (w : ∀ s C' : zMem, P s C' → zW G k D Q pc' L st lay' (tC x s C') nx' b) : zW G k D Q pc L (a2 :: a1 :: zP o :: st) lay C nx b := by
  have h9 := z_V2q (L := L) (b'' := b) (Q := Q) hd hf hw hk hD hst ho hM (fun r l c m q => by obtain ⟨s, C9, q0, q1, q2, q3, q4⟩ := q; have q5 := Sum.inl.inj q1; subst q5; subst q2; subst q3; subst q4; exact w s C9 q0) (fun E l c m q => absurd q (zY'_no E l c m))
  rw [Nat.zero_add, Nat.zero_add] at h9
  exact h9
theorem z_V2vz {a1 a2 : zAV} {P : zMem → Prop} {o nn : Int} (hd : zD k pc (.invokevirtual idx) 3 pc') (hf : zVc own idx k' 2 ci) (hw : own = k.1.cls) (hk : k.2.2.2.2 = []) (hD : D' + 1 ≤ D) (hst : st.length ≤ 4) (ho : lay o = (ci + 1, nn)) (hM : zMM G D' k' [zP o, a1, a2] lay C nx (0, 0) (zZ' none P lay' C0 nx' x)) (w : ∀ s : zMem, P s → zW G k D Q pc' L st lay' (tC x s C0) nx' b) : zW G k D Q pc L (a2 :: a1 :: zP o :: st) lay C nx b := by
  have h9 := z_V2q (L := L) (b'' := b) (Q := Q) hd hf hw hk hD hst ho hM (fun r l c m q => by obtain ⟨s, C9, ⟨q6, q0⟩, q1, q2, q3, q4⟩ := q; subst q6; have q5 := Sum.inl.inj q1; subst q5; subst q2; subst q3; subst q4; exact w s q0) (fun E l c m q => absurd q (zY'_no E l c m))
  rw [Nat.zero_add, Nat.zero_add] at h9
  exact h9
theorem z_V3y {a1 a2 a3 : zAV} {P : zMem → zMem → Prop} {o nn : Int} {v : zAV} (hd : zD k pc (.invokevirtual idx) 3 pc') (hf : zVc own idx k' 3 ci) (hw : own = k.1.cls) (hk : k.2.2.2.2 = []) (hD : D' + 1 ≤ D) (hst : st.length ≤ 4) (ho : lay o = (ci + 1, nn)) (hM : zMM G D' k' [zP o, a1, a2, a3] lay C nx (0, 0) (zY' (some v) P lay' nx' x)) (w : ∀ s C' : zMem, P s C' → zW G k D Q pc' L (v :: st) lay' (tC x s C') nx' b) : zW G k D Q pc L (a3 :: a2 :: a1 :: zP o :: st) lay C nx b := by
  have h9 := z_V3q (L := L) (b'' := b) (Q := Q) hd hf hw hk hD hst ho hM (fun r l c m q => by obtain ⟨s, C9, q0, q1, q2, q3, q4⟩ := q; have q5 := Sum.inl.inj q1; subst q5; subst q2; subst q3; subst q4; exact w s C9 q0) (fun E l c m q => absurd q (zY'_no E l c m))
  rw [Nat.zero_add, Nat.zero_add] at h9
  exact h9
theorem z_V3z {a1 a2 a3 : zAV} {P : zMem → Prop} {o nn : Int} {v : zAV} (hd : zD k pc (.invokevirtual idx) 3 pc') (hf : zVc own idx k' 3 ci) (hw : own = k.1.cls) (hk : k.2.2.2.2 = []) (hD : D' + 1 ≤ D) (hst : st.length ≤ 4) (ho : lay o = (ci + 1, nn)) (hM : zMM G D' k' [zP o, a1, a2, a3] lay C nx (0, 0) (zZ' (some v) P lay' C0 nx' x)) (w : ∀ s : zMem, P s → zW G k D Q pc' L (v :: st) lay' (tC x s C0) nx' b) : zW G k D Q pc L (a3 :: a2 :: a1 :: zP o :: st) lay C nx b := by
  have h9 := z_V3q (L := L) (b'' := b) (Q := Q) hd hf hw hk hD hst ho hM (fun r l c m q => by obtain ⟨s, C9, ⟨q6, q0⟩, q1, q2, q3, q4⟩ := q; subst q6; have q5 := Sum.inl.inj q1; subst q5; subst q2; subst q3; subst q4; exact w s q0) (fun E l c m q => absurd q (zY'_no E l c m))
  rw [Nat.zero_add, Nat.zero_add] at h9
  exact h9
theorem z_V3vy {a1 a2 a3 : zAV} {P : zMem → zMem → Prop} {o nn : Int} (hd : zD k pc (.invokevirtual idx) 3 pc') (hf : zVc own idx k' 3 ci) (hw : own = k.1.cls) (hk : k.2.2.2.2 = []) (hD : D' + 1 ≤ D) (hst : st.length ≤ 4) (ho : lay o = (ci + 1, nn)) (hM : zMM G D' k' [zP o, a1, a2, a3] lay C nx (0, 0) (zY' none P lay' nx' x)) (w : ∀ s C' : zMem, P s C' → zW G k D Q pc' L st lay' (tC x s C') nx' b) : zW G k D Q pc L (a3 :: a2 :: a1 :: zP o :: st) lay C nx b := by
  have h9 := z_V3q (L := L) (b'' := b) (Q := Q) hd hf hw hk hD hst ho hM (fun r l c m q => by obtain ⟨s, C9, q0, q1, q2, q3, q4⟩ := q; have q5 := Sum.inl.inj q1; subst q5; subst q2; subst q3; subst q4; exact w s C9 q0) (fun E l c m q => absurd q (zY'_no E l c m))
  rw [Nat.zero_add, Nat.zero_add] at h9
  exact h9
theorem z_V3vz {a1 a2 a3 : zAV} {P : zMem → Prop} {o nn : Int} (hd : zD k pc (.invokevirtual idx) 3 pc') (hf : zVc own idx k' 3 ci) (hw : own = k.1.cls) (hk : k.2.2.2.2 = []) (hD : D' + 1 ≤ D) (hst : st.length ≤ 4) (ho : lay o = (ci + 1, nn)) (hM : zMM G D' k' [zP o, a1, a2, a3] lay C nx (0, 0) (zZ' none P lay' C0 nx' x)) (w : ∀ s : zMem, P s → zW G k D Q pc' L st lay' (tC x s C0) nx' b) : zW G k D Q pc L (a3 :: a2 :: a1 :: zP o :: st) lay C nx b := by
  have h9 := z_V3q (L := L) (b'' := b) (Q := Q) hd hf hw hk hD hst ho hM (fun r l c m q => by obtain ⟨s, C9, ⟨q6, q0⟩, q1, q2, q3, q4⟩ := q; subst q6; have q5 := Sum.inl.inj q1; subst q5; subst q2; subst q3; subst q4; exact w s q0) (fun E l c m q => absurd q (zY'_no E l c m))
  rw [Nat.zero_add, Nat.zero_add] at h9
  exact h9
theorem z_V4y {a1 a2 a3 a4 : zAV} {P : zMem → zMem → Prop} {o nn : Int} {v : zAV} (hd : zD k pc (.invokevirtual idx) 3 pc') (hf : zVc own idx k' 4 ci) (hw : own = k.1.cls) (hk : k.2.2.2.2 = []) (hD : D' + 1 ≤ D) (hst : st.length ≤ 4) (ho : lay o = (ci + 1, nn)) (hM : zMM G D' k' [zP o, a1, a2, a3, a4] lay C nx (0, 0) (zY' (some v) P lay' nx' x)) (w : ∀ s C' : zMem, P s C' → zW G k D Q pc' L (v :: st) lay' (tC x s C') nx' b) : zW G k D Q pc L (a4 :: a3 :: a2 :: a1 :: zP o :: st) lay C nx b := by
  have h9 := z_V4q (L := L) (b'' := b) (Q := Q) hd hf hw hk hD hst ho hM (fun r l c m q => by obtain ⟨s, C9, q0, q1, q2, q3, q4⟩ := q; have q5 := Sum.inl.inj q1; subst q5; subst q2; subst q3; subst q4; exact w s C9 q0) (fun E l c m q => absurd q (zY'_no E l c m))
  rw [Nat.zero_add, Nat.zero_add] at h9
  exact h9
theorem z_V4z {a1 a2 a3 a4 : zAV} {P : zMem → Prop} {o nn : Int} {v : zAV} (hd : zD k pc (.invokevirtual idx) 3 pc') (hf : zVc own idx k' 4 ci) (hw : own = k.1.cls) (hk : k.2.2.2.2 = []) (hD : D' + 1 ≤ D) (hst : st.length ≤ 4) (ho : lay o = (ci + 1, nn)) (hM : zMM G D' k' [zP o, a1, a2, a3, a4] lay C nx (0, 0) (zZ' (some v) P lay' C0 nx' x)) (w : ∀ s : zMem, P s → zW G k D Q pc' L (v :: st) lay' (tC x s C0) nx' b) : zW G k D Q pc L (a4 :: a3 :: a2 :: a1 :: zP o :: st) lay C nx b := by
  have h9 := z_V4q (L := L) (b'' := b) (Q := Q) hd hf hw hk hD hst ho hM (fun r l c m q => by obtain ⟨s, C9, ⟨q6, q0⟩, q1, q2, q3, q4⟩ := q; subst q6; have q5 := Sum.inl.inj q1; subst q5; subst q2; subst q3; subst q4; exact w s q0) (fun E l c m q => absurd q (zY'_no E l c m))
  rw [Nat.zero_add, Nat.zero_add] at h9
  exact h9
theorem z_V4vy {a1 a2 a3 a4 : zAV} {P : zMem → zMem → Prop} {o nn : Int} (hd : zD k pc (.invokevirtual idx) 3 pc') (hf : zVc own idx k' 4 ci) (hw : own = k.1.cls) (hk : k.2.2.2.2 = []) (hD : D' + 1 ≤ D) (hst : st.length ≤ 4) (ho : lay o = (ci + 1, nn)) (hM : zMM G D' k' [zP o, a1, a2, a3, a4] lay C nx (0, 0) (zY' none P lay' nx' x)) (w : ∀ s C' : zMem, P s C' → zW G k D Q pc' L st lay' (tC x s C') nx' b) : zW G k D Q pc L (a4 :: a3 :: a2 :: a1 :: zP o :: st) lay C nx b := by
  have h9 := z_V4q (L := L) (b'' := b) (Q := Q) hd hf hw hk hD hst ho hM (fun r l c m q => by obtain ⟨s, C9, q0, q1, q2, q3, q4⟩ := q; have q5 := Sum.inl.inj q1; subst q5; subst q2; subst q3; subst q4; exact w s C9 q0) (fun E l c m q => absurd q (zY'_no E l c m))
  rw [Nat.zero_add, Nat.zero_add] at h9
  exact h9
theorem z_V4vz {a1 a2 a3 a4 : zAV} {P : zMem → Prop} {o nn : Int} (hd : zD k pc (.invokevirtual idx) 3 pc') (hf : zVc own idx k' 4 ci) (hw : own = k.1.cls) (hk : k.2.2.2.2 = []) (hD : D' + 1 ≤ D) (hst : st.length ≤ 4) (ho : lay o = (ci + 1, nn)) (hM : zMM G D' k' [zP o, a1, a2, a3, a4] lay C nx (0, 0) (zZ' none P lay' C0 nx' x)) (w : ∀ s : zMem, P s → zW G k D Q pc' L st lay' (tC x s C0) nx' b) : zW G k D Q pc L (a4 :: a3 :: a2 :: a1 :: zP o :: st) lay C nx b := by
  have h9 := z_V4q (L := L) (b'' := b) (Q := Q) hd hf hw hk hD hst ho hM (fun r l c m q => by obtain ⟨s, C9, ⟨q6, q0⟩, q1, q2, q3, q4⟩ := q; subst q6; have q5 := Sum.inl.inj q1; subst q5; subst q2; subst q3; subst q4; exact w s q0) (fun E l c m q => absurd q (zY'_no E l c m))
  rw [Nat.zero_add, Nat.zero_add] at h9
  exact h9
theorem z_V5y {a1 a2 a3 a4 a5 : zAV} {P : zMem → zMem → Prop} {o nn : Int} {v : zAV} (hd : zD k pc (.invokevirtual idx) 3 pc') (hf : zVc own idx k' 5 ci) (hw : own = k.1.cls) (hk : k.2.2.2.2 = []) (hD : D' + 1 ≤ D) (hst : st.length ≤ 4) (ho : lay o = (ci + 1, nn)) (hM : zMM G D' k' [zP o, a1, a2, a3, a4, a5] lay C nx (0, 0) (zY' (some v) P lay' nx' x)) (w : ∀ s C' : zMem, P s C' → zW G k D Q pc' L (v :: st) lay' (tC x s C') nx' b) : zW G k D Q pc L (a5 :: a4 :: a3 :: a2 :: a1 :: zP o :: st) lay C nx b := by
  have h9 := z_V5q (L := L) (b'' := b) (Q := Q) hd hf hw hk hD hst ho hM (fun r l c m q => by obtain ⟨s, C9, q0, q1, q2, q3, q4⟩ := q; have q5 := Sum.inl.inj q1; subst q5; subst q2; subst q3; subst q4; exact w s C9 q0) (fun E l c m q => absurd q (zY'_no E l c m))
  rw [Nat.zero_add, Nat.zero_add] at h9
  exact h9
theorem z_V5z {a1 a2 a3 a4 a5 : zAV} {P : zMem → Prop} {o nn : Int} {v : zAV} (hd : zD k pc (.invokevirtual idx) 3 pc') (hf : zVc own idx k' 5 ci) (hw : own = k.1.cls) (hk : k.2.2.2.2 = []) (hD : D' + 1 ≤ D) (hst : st.length ≤ 4) (ho : lay o = (ci + 1, nn)) (hM : zMM G D' k' [zP o, a1, a2, a3, a4, a5] lay C nx (0, 0) (zZ' (some v) P lay' C0 nx' x)) (w : ∀ s : zMem, P s → zW G k D Q pc' L (v :: st) lay' (tC x s C0) nx' b) : zW G k D Q pc L (a5 :: a4 :: a3 :: a2 :: a1 :: zP o :: st) lay C nx b := by
  have h9 := z_V5q (L := L) (b'' := b) (Q := Q) hd hf hw hk hD hst ho hM (fun r l c m q => by obtain ⟨s, C9, ⟨q6, q0⟩, q1, q2, q3, q4⟩ := q; subst q6; have q5 := Sum.inl.inj q1; subst q5; subst q2; subst q3; subst q4; exact w s q0) (fun E l c m q => absurd q (zY'_no E l c m))
  rw [Nat.zero_add, Nat.zero_add] at h9
  exact h9
theorem z_V5vy {a1 a2 a3 a4 a5 : zAV} {P : zMem → zMem → Prop} {o nn : Int} (hd : zD k pc (.invokevirtual idx) 3 pc') (hf : zVc own idx k' 5 ci) (hw : own = k.1.cls) (hk : k.2.2.2.2 = []) (hD : D' + 1 ≤ D) (hst : st.length ≤ 4) (ho : lay o = (ci + 1, nn)) (hM : zMM G D' k' [zP o, a1, a2, a3, a4, a5] lay C nx (0, 0) (zY' none P lay' nx' x)) (w : ∀ s C' : zMem, P s C' → zW G k D Q pc' L st lay' (tC x s C') nx' b) : zW G k D Q pc L (a5 :: a4 :: a3 :: a2 :: a1 :: zP o :: st) lay C nx b := by
  have h9 := z_V5q (L := L) (b'' := b) (Q := Q) hd hf hw hk hD hst ho hM (fun r l c m q => by obtain ⟨s, C9, q0, q1, q2, q3, q4⟩ := q; have q5 := Sum.inl.inj q1; subst q5; subst q2; subst q3; subst q4; exact w s C9 q0) (fun E l c m q => absurd q (zY'_no E l c m))
  rw [Nat.zero_add, Nat.zero_add] at h9
  exact h9
theorem z_V5vz {a1 a2 a3 a4 a5 : zAV} {P : zMem → Prop} {o nn : Int} (hd : zD k pc (.invokevirtual idx) 3 pc') (hf : zVc own idx k' 5 ci) (hw : own = k.1.cls) (hk : k.2.2.2.2 = []) (hD : D' + 1 ≤ D) (hst : st.length ≤ 4) (ho : lay o = (ci + 1, nn)) (hM : zMM G D' k' [zP o, a1, a2, a3, a4, a5] lay C nx (0, 0) (zZ' none P lay' C0 nx' x)) (w : ∀ s : zMem, P s → zW G k D Q pc' L st lay' (tC x s C0) nx' b) : zW G k D Q pc L (a5 :: a4 :: a3 :: a2 :: a1 :: zP o :: st) lay C nx b := by
  have h9 := z_V5q (L := L) (b'' := b) (Q := Q) hd hf hw hk hD hst ho hM (fun r l c m q => by obtain ⟨s, C9, ⟨q6, q0⟩, q1, q2, q3, q4⟩ := q; subst q6; have q5 := Sum.inl.inj q1; subst q5; subst q2; subst q3; subst q4; exact w s q0) (fun E l c m q => absurd q (zY'_no E l c m))
  rw [Nat.zero_add, Nat.zero_add] at h9
  exact h9
end ZYR
/-! Math, Arrays.fill. -/
section ZMJ
variable {G : zG} {lay : zLay} {C : zMem} {nx : Int}
/-- the first n numbers of cell o are v -/
def zfil (C : zMem) (o n v : Int) : zMem := fun o' j => if o' = o ∧ 0 ≤ j ∧ j < n then v else C o' j
theorem zfil_s {C : zMem} {o n v : Int} (h : 0 ≤ n) : zset (zfil C o n v) o n v = zfil C o (n + 1) v := by
  funext o' j
  unfold zset zfil
  by_cases e : o' = o ∧ j = n
  · rw [if_pos e, if_pos ⟨e.1, by omega, by omega⟩]
  · rw [if_neg e]
    by_cases e2 : o' = o ∧ 0 ≤ j ∧ j < n
    · rw [if_pos e2, if_pos ⟨e2.1, by omega, by omega⟩]
    · rw [if_neg e2, if_neg (fun z => e2 ⟨z.1, z.2.1, by have := z.2.2; have : ¬ j = n := fun q => e ⟨z.1, q⟩; omega⟩)]
theorem zfil_0 {C : zMem} {o v : Int} : zfil C o 0 v = C := by funext o' j; exact if_neg (by omega)
theorem c_J7_fill_53178 {o n v : Int} (hm : o ≠ -1) (ho : lay o = (100, n)) (hn : 0 ≤ n ∧ n < 2147483648) : zMM G 1 KJ7_fill_53178 [zP o, zI v] lay C nx (0, 0) (zR none lay (zfil C o n v) nx) := by
  refine z_met' (L := [zP o, zI v, zU, zU]) gJ7_fill_53178.1 rfl rfl (Nat.le_of_ble_eq_true rfl) rfl ?_
  have hl : ∀ t : Int, 0 ≤ t → t ≤ n → zW G KJ7_fill_53178 1 (zR none lay (zfil C o n v) nx) 5 [zP o, zI v, zI t, zI n] [] lay (zfil C o t v) nx (0, 0) := by
    refine z_up n ?_ ?_
    · refine z_il2 eJ7_fill_53178_5 ?_
      refine z_il3 eJ7_fill_53178_6 ?_
      refine z_icmp_ge (tgt := 20) eJ7_fill_53178_7 rfl ⟨⟨by omega, by omega⟩, ⟨by omega, by omega⟩⟩ (fun h2 => ?_) (fun h2 => by exfalso; omega)
      refine z_return eJ7_fill_53178_20 rfl ?_
      exact ⟨rfl, rfl, rfl, rfl⟩
    · intro t t0 t1 ih
      refine z_il2 eJ7_fill_53178_5 ?_
      refine z_il3 eJ7_fill_53178_6 ?_
      refine z_icmp_ge (tgt := 20) eJ7_fill_53178_7 rfl ⟨⟨by omega, by omega⟩, ⟨by omega, by omega⟩⟩ (fun h2 => by exfalso; omega) (fun h2 => ?_)
      refine z_al0 eJ7_fill_53178_10 hm ?_
      refine z_il2 eJ7_fill_53178_11 ?_
      refine z_il1 eJ7_fill_53178_12 ?_
      refine z_iastore eJ7_fill_53178_13 ho ⟨by omega, by omega⟩ ?_
      refine z_ii2 eJ7_fill_53178_14 (Nat.ne_of_beq_eq_false rfl) ?_
      refine z_goto eJ7_fill_53178_17 (tgt := 5) rfl ?_
      rw [zfil_s t0]
      exact ih
  have h0 := hl 0 (by omega) hn.1
  rw [zfil_0] at h0
  refine z_iconst eJ7_fill_53178_0 ?_
  refine z_is2 eJ7_fill_53178_1 (Nat.ne_of_beq_eq_false rfl) ?_
  refine z_al0 eJ7_fill_53178_2 hm ?_
  refine z_alen eJ7_fill_53178_3 ho ?_
  refine z_is3 eJ7_fill_53178_4 (Nat.ne_of_beq_eq_false rfl) ?_
  exact h0
end ZMJ
theorem tC_fil {x n v t : Int} {σ C0 : zMem} (ht : inT t) (hn : ∀ j, rfT t j = none) : zfil (tC x σ C0) (x + t) n v = tC x (zfil σ t n v) C0 := by
  funext o j
  unfold zfil tC
  by_cases e : o = x + t ∧ 0 ≤ j ∧ j < n
  · rw [if_pos e, e.1, show x + t - x = t by omega, zif_t ht, hn j]
    dsimp only
    rw [if_pos ⟨rfl, e.2⟩]
  · rw [if_neg e]
    by_cases h3 : inT (o - x)
    · rw [zif_t h3, zif_t h3]
      cases rfT (o - x) j with
      | some t => rfl
      | none =>
        dsimp only
        rw [if_neg (by omega)]
    · rw [zif_f h3, zif_f h3]
