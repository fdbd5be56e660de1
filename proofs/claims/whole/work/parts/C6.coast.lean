/-! A text of the coast: what its draft keeps. -/
theorem TxC.out {x : Int} {s s' : zMem} {w : Int} {T : Int → Int} {e : Int} (h : TxC x s w T e) (h0 : s' w = s w) (h1 : s' 1 = s 1) : TxC x s' w T e := by
  refine ⟨by rw [h0]; exact h.pt, by rw [h0]; exact h.ln, h.e0, fun i i0 i1 => ?_, h.bt, h.w1⟩
  rw [show (0 : Int) + 1 = 1 by decide, h1]
  exact h.tx i i0 i1
section ZTKN
variable {G : zG} {k : zK} {D pc pc' idx : Nat} {Q : zQ} {L st : List zAV} {lay : zLay} {σ C0 : zMem} {nx x w e a : Int} {T : Int → Int} {bb : Nat × Nat} {own : String}
theorem z_tkn {lo hi : Int} (hd : zD k pc (.invokevirtual idx) 3 pc') (hf : zVc own idx KX10_takeNumber 2 10) (hw : own = k.1.cls) (hk : k.2.2.2.2 = []) (hD : 2 + 1 ≤ D) (hst : st.length ≤ 4) (hT : TopL lay x) (hX : TxC x σ w T e) (ha : 0 ≤ a ∧ a ≤ e) (hlo : zin lo) (hhi : zin hi)
    (wt : ∀ F : Int × Int × Int, qFig T e lo hi a (-1) = F → F.2.2 = -1 → lo ≤ F.1 ∧ F.1 ≤ hi → 0 ≤ F.2.1 ∧ F.2.1 ≤ e → zW G k D Q pc' L (zI F.1 :: st) lay (tC x (zTk σ w T e F.2.1 (-1)) C0) nx bb)
    (wf : ∀ F : Int × Int × Int, qFig T e lo hi a (-1) = F → F.2.2 = qscan qbl T e a → 0 ≤ F.2.2 → zW G k D Q pc' L (zI (-1) :: st) lay (tC x (zTk σ w T e a F.2.2) C0) nx bb) : zW G k D Q pc L (zI hi :: zI lo :: zP (x + w) :: st) lay (tC x (zTk σ w T e a (-1)) C0) nx bb := by
  have he := hX.e0
  have hA := hX.A
  have hq := qFig_bd (T := T) (e := e) (lo := lo) (hi := hi) (a := a) (f := -1) ⟨ha.1, ha.2, by decide, by decide⟩ he.2 (fun k k0 k1 => (hX.bt k k0 k1).1)
  have hsk := qskip_bd (T := T) ha.2
  obtain ⟨F, hF⟩ : ∃ F, qFig T e lo hi a (-1) = F := ⟨_, rfl⟩
  refine z_V2 hd hf hw hk hD hst ((hA).L0 hT (by decide)) (c_X10_takeNumber hT hX ha rfl hlo hhi) ?_
  rw [hF] at hq ⊢
  by_cases h : F.2.2 = -1
  · rw [if_pos h, if_pos h, h]
    exact wt F hF h ⟨(hq.2.1 h).1, (hq.2.1 h).2.1⟩ ⟨hq.1.1, hq.1.2.1⟩
  · have h2 : F.2.2 = qscan qbl T e a := by
      rw [← hF] at h ⊢
      unfold qFig at h ⊢
      rw [if_pos rfl] at h ⊢
      dsimp only at h ⊢
      split at h
      · rename_i z; rw [if_pos z]
      · exact absurd rfl h
    rw [if_neg h, if_neg h]
    exact wf F hF h2 (by omega)
end ZTKN
/-- what reading a line L of the coast leaves, s being the numbers but for the words -/
def zRdC (s : zMem) (T : Int → Int) (e : Int) (L : qLn) (q : zMem) : Prop := (L.2.2 = -1 → ∃ s', q = zTk s' 274 T e L.2.1 (-1) ∧ zOut 276 18 s s' ∧ s' 276 10 = s 276 10 ∧ CoN s' 276 L.1) ∧ (L.2.2 ≠ -1 → q 274 0 = L.2.2 ∧ ∀ i, i ≠ 274 → ¬ (276 ≤ i ∧ i < 294) → q i = s i)
theorem zRdf {lay : zLay} {s S C0 : zMem} {nx x e a f : Int} {T : Int → Int} {L : qLn} (h : L.2.2 = f) (hf : 0 ≤ f) (hS : zOut 276 18 s S) : zZ' (some (zI (zbi (L.2.2 = -1)))) (zRdC s T e L) lay C0 nx x (.inl (some (zI 0))) lay (tC x (zTk S 274 T e a f) C0) nx :=
  zZe ⟨fun z => absurd (h ▸ z) (by omega), fun _ => ⟨by rw [zTk_0, h], fun i i1 i2 => by rw [zTk_o i1]; exact hS i (by omega)⟩⟩ (zbi_f (by rw [h]; omega)).symm
theorem zTk_sk {σ : zMem} {w : Int} {T : Int → Int} {e a a' f : Int} (h : qscan qbl T e a = qscan qbl T e a') : zTk σ w T e a f = zTk σ w T e a' f := by unfold zTk; rw [h]
theorem zRdt {lay : zLay} {s S C0 : zMem} {nx x e a : Int} {T : Int → Int} {L : qLn} (h : L.2.2 = -1) (h1 : qscan qbl T e L.2.1 = qscan qbl T e a) (hS : zOut 276 18 s S) (h10 : S 276 10 = s 276 10) (hN : CoN S 276 L.1) : zZ' (some (zI (zbi (L.2.2 = -1)))) (zRdC s T e L) lay C0 nx x (.inl (some (zI 1))) lay (tC x (zTk S 274 T e a (-1)) C0) nx :=
  zZe ⟨fun _ => ⟨S, (zTk_sk h1).symm, hS, h10, hN⟩, fun z => absurd h z⟩ (zbi_t h).symm
/-- quorum, aye or the drizzle's seats are told -/
theorem CoN.fld {σ : zMem} {b i w v : Int} {M : Int → Int} (h : CoN σ b M) (hI : zInv M) (hi : (i = 7 ∧ w = 8) ∨ (i = 8 ∧ w = 9) ∨ (i = 9 ∧ w = 10)) : CoN (zset σ b i v) b (zput M w v) := by
  have hm3 := hI.m3
  have e : ∀ j, j < 8 ∨ 11 ≤ j → zput M w v j = M j := fun j hj => zput_ne (by omega)
  have c : ∀ j, j < 7 ∨ 9 < j → zset σ b i v b j = σ b j := fun j hj => zset_f (by omega)
  have o : ∀ q, q ≠ b → zset σ b i v q = σ q := fun q hq => zset_o hq
  refine ⟨?_, ?_, ?_, ?_, ?_, ?_, ?_, ?_, ?_, ?_, ?_, ?_, ?_⟩
  · rw [c 0 (by omega), e 0 (by omega)]; exact h.n0
  · rw [c 1 (by omega), e 3 (by omega)]; exact h.n3
  · intro p p0 p1; rw [e 3 (by omega)] at p1; rw [o _ (by omega), e _ (by omega)]; exact h.pl p p0 p1
  · intro p p0 p1; rw [e 3 (by omega)] at p1; rw [o _ (by omega), e _ (by omega)]; exact h.se p p0 p1
  · intro k k0 k1; rw [o _ (by omega), e _ (by omega)]; exact h.ex k k0 k1
  · rw [c 4 (by omega), h.ha]; exact zors_eq (e 3 (by omega)).symm (fun t t0 t1 => by rw [e _ (by omega)])
  · rw [c 5 (by omega), h.ou]; exact zors_eq (e 3 (by omega)).symm (fun t t0 t1 => by rw [e _ (by omega)])
  · rcases hi with ⟨z1, z2⟩ | ⟨z1, z2⟩ | ⟨z1, z2⟩ <;> subst z1 <;> subst z2
    · rw [zset_eq, zput_eq]
    · rw [zset_f (by decide), zput_ne (by decide)]; exact h.n8
    · rw [zset_f (by decide), zput_ne (by decide)]; exact h.n8
  · rcases hi with ⟨z1, z2⟩ | ⟨z1, z2⟩ | ⟨z1, z2⟩ <;> subst z1 <;> subst z2
    · rw [zset_f (by decide), zput_ne (by decide)]; exact h.n9
    · rw [zset_eq, zput_eq]
    · rw [zset_f (by decide), zput_ne (by decide)]; exact h.n9
  · rcases hi with ⟨z1, z2⟩ | ⟨z1, z2⟩ | ⟨z1, z2⟩ <;> subst z1 <;> subst z2
    · rw [zset_f (by decide), zput_ne (by decide)]; exact h.n10
    · rw [zset_f (by decide), zput_ne (by decide)]; exact h.n10
    · rw [zset_eq, zput_eq]
  · exact (h.we.out (o _ (by omega)) (o _ (by omega))).m (fun j hj => e j (by omega))
  · exact (h.mo.out (fun q q0 q1 => o _ (by omega))).m hI.m4.2 (fun j hj => e j (by omega))
  · exact (h.lo.out (o _ (by omega)) (o _ (by omega))).m hI.m11.2 (fun j hj => e j (by omega))
/-- the weather is told -/
theorem CoN.wea {σ S : zMem} {b : Int} {M M' : Int → Int} (h : CoN σ b M) (hI : zInv M) (ho : zOut (b + 4) 4 σ S) (e : ∀ j, ¬ (j = 5 ∨ j = 6 ∨ j = 7 ∨ j = 12 ∨ (13 ≤ j ∧ j < 38)) → M' j = M j) (hw : WeR S (b + 4) M') : CoN S b M' :=
  h.of hI.m3.2 (ho _ (by omega)) (ho _ (by omega)) (ho _ (by omega)) (ho _ (by omega)) (fun j hj => e j (by omega)) hw
    ((h.mo.out (fun i i0 i1 => ho _ (by omega))).m hI.m4.2 (fun j hj => e j (by omega))) ((h.lo.out (ho _ (by omega)) (ho _ (by omega))).m hI.m11.2 (fun j hj => e j (by omega)))
theorem WeR.fld {σ : zMem} {b i w v : Int} {M : Int → Int} (h : WeR σ b M) (hi : (i = 0 ∧ w = 5) ∨ (i = 1 ∧ w = 6) ∨ (i = 2 ∧ w = 7)) : WeR (zset σ b i v) b (zput M w v) := by
  refine ⟨⟨?_, ?_, ?_, ?_⟩, fun t t0 t1 => by rw [zset_o (by omega), zput_ne (by omega)]; exact h.2 t t0 t1⟩
  · rcases hi with ⟨z1, z2⟩ | ⟨z1, z2⟩ | ⟨z1, z2⟩ <;> subst z1 <;> subst z2
    · rw [zset_eq, zput_eq]
    · rw [zset_f (by decide), zput_ne (by decide)]; exact h.1.1
    · rw [zset_f (by decide), zput_ne (by decide)]; exact h.1.1
  · rcases hi with ⟨z1, z2⟩ | ⟨z1, z2⟩ | ⟨z1, z2⟩ <;> subst z1 <;> subst z2
    · rw [zset_f (by decide), zput_ne (by decide)]; exact h.1.2.1
    · rw [zset_eq, zput_eq]
    · rw [zset_f (by decide), zput_ne (by decide)]; exact h.1.2.1
  · rcases hi with ⟨z1, z2⟩ | ⟨z1, z2⟩ | ⟨z1, z2⟩ <;> subst z1 <;> subst z2
    · rw [zset_f (by decide), zput_ne (by decide)]; exact h.1.2.2.1
    · rw [zset_f (by decide), zput_ne (by decide)]; exact h.1.2.2.1
    · rw [zset_eq, zput_eq]
  · rw [zset_f (by omega), zput_ne (by omega)]; exact h.1.2.2.2
