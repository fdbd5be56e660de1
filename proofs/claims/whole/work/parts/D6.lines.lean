/-! The lines of a law. -/
def zLn (C : zMem) (p k am : Int) : zMem := zset (zset (zset (zset C (p + 1) (C p 0) k) (p + 2) (C p 0) am) (p + 3) (C p 0) (C p 4)) p 0 (C p 0 + 1)
/-- n lines stand, which say W -/
def zLI (e p : Int) (C : zMem) (n : Int) (W : (Int → Int) → Int × Int × Int) : Prop :=
  LwB C p e ∧ C p 0 = n ∧ qStart C p n = C p 4 ∧ (0 ≤ C p 4 ∧ C p 4 ≤ e) ∧ LwF C p ∧ (∀ i, 0 ≤ i → i < n → C (p + 3) i ≤ C p 4) ∧
  ∀ F, qFaOK F → ∃ V, LwRun C p F V ∧ W F = (qSumL C p 0 V n - qSumL C p 1 V n, zbi (∃ i, (0 ≤ i ∧ i < n) ∧ C (p + 1) i = 2), zbi (0 < qSumL C p 2 V n))
theorem zLI.step {e p n k am : Int} {m : Nat} {C C1 : zMem} {W : (Int → Int) → Int × Int × Int} {sv : (Int → Int) → Int} (h : zLI e p C n W) (hn : 0 ≤ n ∧ n < 12) (hk : 0 ≤ k ∧ k ≤ 2) (ham : 0 ≤ am ∧ am ≤ 20) (h2 : k = 2 → am = 1) (hK : zKC p e C C1) (hm : C1 p 4 = C p 4 + m) (hc : (m = 0 ∧ ∀ F, sv F = 1) ∨ (qCode (C1 (p + 4)) (C p 4) m 7 sv ∧ ∀ F, qFaOK F → sv F = 0 ∨ sv F = 1)) : zLI e p (zLn C1 p k am) (n + 1) (fun F => (qLf k am (sv F) (W F).1, qLh k (W F).2.1, qLl k (sv F) (W F).2.2)) := by
  obtain ⟨hB, h0, hst, h4, hF, hsp, hW⟩ := h
  have c0 : C1 p 0 = n := by rw [hK.2.1 0 (by decide)]; exact h0
  have d0 : zLn C1 p k am p 0 = n + 1 := by unfold zLn; rw [zset_eq, c0]
  have d4 : zLn C1 p k am p 4 = C1 p 4 := by unfold zLn; rw [zset_f (by decide), zset_o (by omega), zset_o (by omega), zset_o (by omega)]
  have dj : ∀ j, j ≠ 0 → zLn C1 p k am p j = C1 p j := fun j hj => by unfold zLn; rw [zset_f hj, zset_o (by omega), zset_o (by omega), zset_o (by omega)]
  have d1 : ∀ i, zLn C1 p k am (p + 1) i = if i = n then k else C (p + 1) i := fun i => by
    unfold zLn
    rw [zset_o (by omega), zset_o (by omega), zset_o (by omega), zset_at, c0, hK.1 _ (by omega) (by omega)]
    by_cases c : i = n
    · rw [if_pos ⟨rfl, c⟩, if_pos c]
    · rw [if_neg (fun q => c q.2), if_neg c]
  have d2 : ∀ i, zLn C1 p k am (p + 2) i = if i = n then am else C (p + 2) i := fun i => by
    unfold zLn
    rw [zset_o (by omega), zset_o (by omega), zset_at, zset_o (by omega), c0, hK.1 _ (by omega) (by omega)]
    by_cases c : i = n
    · rw [if_pos ⟨rfl, c⟩, if_pos c]
    · rw [if_neg (fun q => c q.2), if_neg c]
  have d3 : ∀ i, zLn C1 p k am (p + 3) i = if i = n then C1 p 4 else C (p + 3) i := fun i => by
    unfold zLn
    rw [zset_o (by omega), zset_at, zset_o (by omega), zset_o (by omega), c0, hK.1 (p + 3) (by omega) (by omega)]
    by_cases c : i = n
    · rw [if_pos ⟨rfl, c⟩, if_pos c]
    · rw [if_neg (fun q => c q.2), if_neg c]
  have d5 : zLn C1 p k am (p + 4) = C1 (p + 4) := by
    unfold zLn
    rw [zset_o (by omega), zset_o (by omega), zset_o (by omega), zset_o (by omega)]
  have ds : ∀ i, i ≤ n → qStart (zLn C1 p k am) p i = qStart C p i := fun i hi => by
    unfold qStart
    rw [d3]
    split
    · rfl
    · rw [if_neg (by omega)]
  have hC1 : C1 p 4 ≤ e := hK.2.2.2.2
  have hsum : ∀ (kk : Int) (V : Int → Int) (x : Int), qSumL (zLn C1 p k am) p kk (fun i => if i = n then x else V i) (n + 1) = qSumL C p kk V n + (if k = kk ∧ x = 1 then am else 0) := by
    intro kk V x
    unfold qSumL
    rw [zsum_s _ hn.1]
    congr 1
    · refine zsum_congr (fun i i0 i1 => ?_)
      have hin : ¬ i = n := by omega
      simp only [d1, d2, if_neg hin]
    · have hnn : n = n := rfl
      simp only [d1, d2, if_pos hnn, if_true]
  refine ⟨⟨by rw [d0]; omega, fun i i0 i1 => ?_⟩, d0, ?_, by rw [d4]; omega, ⟨(dj 1 (by decide)).trans (hK.F hF).f1, (dj 2 (by decide)).trans (hK.F hF).f2, (dj 3 (by decide)).trans (hK.F hF).f3, (dj 5 (by decide)).trans (hK.F hF).f5, (dj 6 (by decide)).trans (hK.F hF).f6⟩, fun i i0 i1 => ?_, fun F hFo => ?_⟩
  · rw [d0] at i1
    rw [d1, d2, d3, ds i (by omega)]
    by_cases c : i = n
    · rw [if_pos c, if_pos c, if_pos c, c, hst]
      omega
    · rw [if_neg c, if_neg c, if_neg c]
      have := hB.2 i i0 (by omega)
      omega
  · unfold qStart
    rw [if_neg (by omega), d3, if_pos (by omega), d4]
  · rw [d3, d4]
    split
    · omega
    · have := hsp i i0 (by omega); omega
  · obtain ⟨V, v1, v2⟩ := hW F hFo
    refine ⟨fun i => if i = n then sv F else V i, fun i i0 i1 S => ?_, ?_⟩
    · rw [d0] at i1
      rw [d3, ds i (by omega), d5]
      dsimp only
      by_cases c : i = n
      · rw [if_pos c, if_pos c, c, hst, show (C1 p 4 - C p 4).toNat = m by omega]
        rcases hc with ⟨c1, c2⟩ | ⟨c1, c2⟩
        · subst c1
          refine ⟨(0, S), rfl, ⟨Int.le_refl 0, by show (0 : Int) ≤ 24; decide⟩, Or.inl rfl, ?_⟩
          rw [c2 F]
          exact zbi_t (Or.inl rfl)
        · obtain ⟨r, r1, r2, r3, r4⟩ := c1 F hFo 0 S (by decide) (by decide)
          refine ⟨r, r1, by omega, Or.inr (by rw [r3]; exact zin_01 (c2 F hFo)), ?_⟩
          unfold qHolds
          rw [r3]
          rcases c2 F hFo with z | z
          · rw [z]; exact zbi_f (by omega)
          · rw [z]; exact zbi_t (Or.inr rfl)
      · rw [if_neg c, if_neg c]
        obtain ⟨r, r1, r2⟩ := v1 i i0 (by omega) S
        have b3 := (hB.2 i i0 (by omega)).2.2
        exact ⟨r, r1.cg (fun j j0 j1 => hK.2.2.1 j (by have := hsp i i0 (by omega); omega)), r2⟩
    · have hb2 := qSumL_bd (V := V) (k := 2) hB (m := n) ⟨hn.1, by omega⟩
      rw [hsum, hsum, hsum]
      dsimp only
      rw [v2]
      have hex : zbi (∃ i, (0 ≤ i ∧ i < n + 1) ∧ zLn C1 p k am (p + 1) i = 2) = qLh k (zbi (∃ i, (0 ≤ i ∧ i < n) ∧ C (p + 1) i = 2)) := by
        unfold qLh
        by_cases c : k = 2
        · rw [if_pos c]
          exact zbi_t ⟨n, ⟨hn.1, by omega⟩, by rw [d1, if_pos rfl]; exact c⟩
        · rw [if_neg c]
          refine zbi_iff ⟨?_, ?_⟩
          · rintro ⟨i, ⟨i0, i1⟩, i2⟩
            rw [d1] at i2
            by_cases ci : i = n
            · rw [if_pos ci] at i2; exact absurd i2 c
            · rw [if_neg ci] at i2; exact ⟨i, ⟨i0, by omega⟩, i2⟩
          · rintro ⟨i, ⟨i0, i1⟩, i2⟩
            exact ⟨i, ⟨i0, by omega⟩, by rw [d1, if_neg (by omega)]; exact i2⟩
      rw [hex]
      have hs01 : sv F = 0 ∨ sv F = 1 := by
        rcases hc with ⟨_, c2⟩ | ⟨_, c2⟩
        · exact Or.inr (c2 F)
        · exact c2 F hFo
      refine Prod.ext ?_ (Prod.ext rfl ?_)
      · show qLf k am (sv F) (qSumL C p 0 V n - qSumL C p 1 V n) = _
        unfold qLf
        dsimp only
        rcases hs01 with z | z <;> rw [z]
        · rw [if_pos rfl, if_neg (by omega), if_neg (by omega)]; omega
        · rw [if_neg (by decide)]
          (repeat' split) <;> omega
      · show qLl k (sv F) (zbi (0 < qSumL C p 2 V n)) = zbi (0 < qSumL C p 2 V n + (if k = 2 ∧ sv F = 1 then am else 0))
        unfold qLl
        rcases hs01 with z | z <;> rw [z]
        · rw [if_pos rfl, if_neg (by omega), Int.add_zero]
        · rw [if_neg (by decide)]
          by_cases c : k = 2
          · rw [if_pos c, if_pos ⟨c, rfl⟩, h2 c]
            exact (zbi_t (by omega)).symm
          · rw [if_neg c, if_neg (fun q => c q.1), Int.add_zero]
theorem zLI.nil {e p : Int} {C : zMem} (h0 : C p 0 = 0) (h4 : C p 4 = 0) (he : 0 ≤ e) (hF : LwF C p) : zLI e p C 0 (fun _ => (0, 0, 0)) :=
  ⟨⟨by omega, fun i i0 i1 => by omega⟩, h0, by rw [h4]; rfl, by omega, hF, fun i i0 i1 => by omega, fun F _ => ⟨fun _ => 0, fun i i0 i1 => by omega, by
    rw [show zbi (∃ i, (0 ≤ i ∧ i < (0 : Int)) ∧ C (p + 1) i = 2) = 0 from zbi_f (fun ⟨i, ⟨i0, i1⟩, _⟩ => by omega)]
    unfold qSumL
    rw [zsum_0, zsum_0, zsum_0, zbi_f (by decide)]
    rfl⟩⟩
