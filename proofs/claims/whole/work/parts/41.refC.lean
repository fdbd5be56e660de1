/-! What the reference's row always keeps. -/
/-- the least and the most of each number -/
def zBd (j : Int) : Int × Int :=
  if j = 0 then (0, 12) else if j = 1 then (-1, 12) else if j = 2 then (0, 400) else if j = 3 then (0, 7) else if j = 4 then (0, 8) else if j = 5 then (0, 4) else if j = 6 then (0, 11) else if j = 7 then (0, 9999) else if j = 8 then (0, 8) else if j = 9 then (1, 20) else if j = 10 then (0, 20) else if j = 11 then (0, 60) else if j < 46 then (0, 9) else if j < 74 then (if (j - 46) % 4 = 0 then (0, 7) else if (j - 46) % 4 = 1 then (0, 20) else (0, 1)) else if j < 114 then (if (j - 74) % 5 = 0 then (0, 6) else if (j - 74) % 5 = 1 then (0, 9) else if (j - 74) % 5 = 2 then (0, 99) else (0, 3)) else if j < 126 then (-1, 7) else (0, 9999)
/-- the seed, and the bits of those who are for a motion: any numbers -/
def zFree (j : Int) : Prop := j = 12 ∨ (74 ≤ j ∧ j < 114 ∧ (j - 74) % 5 = 3)
def zInv (M : Int → Int) : Prop := ∀ j, 0 ≤ j → j < 426 → zFree j ∨ ((zBd j).1 ≤ M j ∧ M j ≤ (zBd j).2)
/-- each sky is followed by some sky -/
def zSum (M : Int → Int) : Prop := ∀ s, 0 ≤ s → s ≤ 4 → 1 ≤ zsum (fun t => M (13 + 5 * s + t)) 5
def zOK (M : Int → Int) : Prop := zInv M ∧ zSum M
theorem zInv.put {M : Int → Int} {k v : Int} (h : zInv M) (hb : 0 ≤ k → k < 426 → zFree k ∨ ((zBd k).1 ≤ v ∧ v ≤ (zBd k).2)) : zInv (zput M k v) := by
  intro j h0 h1
  unfold zput
  by_cases e : j = k
  · rw [if_pos e, e]; exact hb (by omega) (by omega)
  · rw [if_neg e]; exact h j h0 h1
theorem zSum.put {M : Int → Int} {k v : Int} (h : zSum M) (hk : k < 13 ∨ 38 ≤ k) : zSum (zput M k v) := by
  intro s h0 h1
  have e : zsum (fun t => zput M k v (13 + 5 * s + t)) 5 = zsum (fun t => M (13 + 5 * s + t)) 5 := zsum_congr (fun t z0 z1 => by
    show zput M k v (13 + 5 * s + t) = M (13 + 5 * s + t)
    exact zput_ne (by omega))
  rw [e]
  exact h s h0 h1
theorem zOK.put {M : Int → Int} {k v : Int} (h : zOK M) (hk : k < 13 ∨ 38 ≤ k) (hb : 0 ≤ k → k < 426 → zFree k ∨ ((zBd k).1 ≤ v ∧ v ≤ (zBd k).2)) : zOK (zput M k v) := ⟨h.1.put hb, h.2.put hk⟩
theorem zBd_E {p : Int} (h : 0 ≤ p ∧ p < 8) : zBd (38 + p) = (0, 9) := by
  unfold zBd
  iterate 12 rw [if_neg (by omega)]
  rw [if_pos (by omega)]
theorem zBd_W {p : Int} (h : 13 ≤ p ∧ p < 38) : zBd p = (0, 9) := by
  unfold zBd
  iterate 12 rw [if_neg (by omega)]
  rw [if_pos (by omega)]
theorem zBd_U {p i : Int} (h : 0 ≤ p ∧ p < 7) (hi : 0 ≤ i ∧ i < 4) : zBd (46 + 4 * p + i) = if i = 0 then (0, 7) else if i = 1 then (0, 20) else (0, 1) := by
  unfold zBd
  iterate 13 rw [if_neg (by omega)]
  rw [if_pos (by omega)]
  by_cases h0 : i = 0
  · rw [if_pos (by omega), if_pos h0]
  rw [if_neg (by omega), if_neg h0]
  by_cases h1 : i = 1
  · rw [if_pos (by omega), if_pos h1]
  · rw [if_neg (by omega), if_neg h1]
theorem zBd_V {k i : Int} (h : 0 ≤ k ∧ k < 8) (hi : 0 ≤ i ∧ i < 5) : zBd (74 + 5 * k + i) = if i = 0 then (0, 6) else if i = 1 then (0, 9) else if i = 2 then (0, 99) else (0, 3) := by
  unfold zBd
  iterate 14 rw [if_neg (by omega)]
  rw [if_pos (by omega)]
  by_cases h0 : i = 0
  · rw [if_pos (by omega), if_pos h0]
  rw [if_neg (by omega), if_neg h0]
  by_cases h1 : i = 1
  · rw [if_pos (by omega), if_pos h1]
  rw [if_neg (by omega), if_neg h1]
  by_cases h2 : i = 2
  · rw [if_pos (by omega), if_pos h2]
  · rw [if_neg (by omega), if_neg h2]
theorem zBd_P {h : Int} (hh : 0 ≤ h ∧ h < 12) : zBd (114 + h) = (-1, 7) := by
  unfold zBd
  iterate 15 rw [if_neg (by omega)]
  rw [if_pos (by omega)]
theorem zBd_G {i : Int} (h : 0 ≤ i ∧ i < 300) : zBd (126 + i) = (0, 9999) := by
  unfold zBd
  iterate 16 rw [if_neg (by omega)]
theorem zInv.at {M : Int → Int} (h : zInv M) {j lo hi : Int} (hb : zBd j = (lo, hi)) (h0 : 0 ≤ j ∧ j < 426) (hf : ¬ zFree j) : lo ≤ M j ∧ M j ≤ hi := by
  have := (h j h0.1 h0.2).resolve_left hf
  rwa [hb] at this
theorem zInv.s {M : Int → Int} (h : zInv M) (j : Int) {lo hi : Int} (hb : zBd j = (lo, hi)) (h0 : 0 ≤ j ∧ j < 12) : lo ≤ M j ∧ M j ≤ hi := h.at hb ⟨h0.1, by omega⟩ (by unfold zFree; omega)
theorem zInv.m3 {M : Int → Int} (h : zInv M) : 0 ≤ M 3 ∧ M 3 ≤ 7 := h.s 3 rfl (by omega)
theorem zInv.m4 {M : Int → Int} (h : zInv M) : 0 ≤ M 4 ∧ M 4 ≤ 8 := h.s 4 rfl (by omega)
theorem zInv.P {M : Int → Int} (h : zInv M) : ∀ t, 0 ≤ t → t < 12 → zin (M (114 + t)) := fun t h0 h1 => by
  have := h.at (zBd_P ⟨h0, h1⟩) ⟨by omega, by omega⟩ (by unfold zFree; omega)
  exact ⟨by omega, by omega⟩
theorem qscan_all {P : Int → Bool} {T : Int → Int} {e : Int} : ∀ (n : Nat) (b : Int), (e - b).toNat = n → ∀ k, b ≤ k → k < qscan P T e b → P (T k) = true := by
  intro n
  induction n with
  | zero => intro b h k h0 h1; rw [qscan_ge (k := b) (by omega)] at h1; omega
  | succ n ih =>
    intro b h k h0 h1
    by_cases hp : P (T b) = true
    · by_cases e2 : k = b
      · rw [e2]; exact hp
      · rw [qscan_t (k := b) (by omega) hp] at h1
        exact ih (b + 1) (by omega) k (by omega) h1
    · rw [qscan_f (k := b) (by omega) hp] at h1; omega
theorem qTells_ok {T : Int → Int} {e w lo hi a f : Int} {M : Int → Int} (h : zOK M) (ha : qAt e a f) (he : e ≤ 400) (hT : ∀ k, 0 ≤ k → k < 400 → 0 ≤ T k) (hw : w < 13) (hb : (zBd w).1 ≤ lo ∧ hi ≤ (zBd w).2) : zOK (qTells T e M w lo hi a f).1 ∧ qAt e (qTells T e M w lo hi a f).2.1 (qTells T e M w lo hi a f).2.2 := by
  have hr := qFig_bd (lo := lo) (hi := hi) ha he hT
  unfold qTells
  generalize qFig T e lo hi a f = r at hr ⊢
  refine ⟨?_, hr.1⟩
  dsimp only
  split
  · rename_i z
    have := hr.2.1 z
    exact h.put (Or.inl hw) (fun _ _ => Or.inr ⟨by omega, by omega⟩)
  · exact h
theorem qPlaceLine_ok {T : Int → Int} {e a f : Int} {M : Int → Int} (h : zOK M) (ha : qAt e a f) (he : e ≤ 400) (hT : ∀ k, 0 ≤ k → k < 400 → 0 ≤ T k) : zOK (qPlaceLine T e M a f).1 ∧ qAt e (qPlaceLine T e M a f).2.1 (qPlaceLine T e M a f).2.2 := by
  have hr := qFig_bd (lo := 0) (hi := 7) ha he hT
  unfold qPlaceLine
  generalize qFig T e 0 7 a f = r at hr ⊢
  have hs := qAfter_bd (lo := 0) (hi := 9) (w := qw_exposed) hr.1 he hT
  generalize qAfter T e qw_exposed 0 9 r.2.1 r.2.2 = s at hs ⊢
  refine ⟨?_, hs.1⟩
  dsimp only
  split
  · rename_i z
    have z2 := hs.2.1 z
    have z3 := hr.2.1 z2.2.2
    exact h.put (Or.inr (by omega)) (fun _ _ => Or.inr (by rw [zBd_E ⟨z3.1, by omega⟩]; exact ⟨z2.1, z2.2.1⟩))
  · exact h
theorem qPaperLine_ok {T : Int → Int} {e a f : Int} {M : Int → Int} (h : zOK M) (ha : qAt e a f) (he : e ≤ 400) (hT : ∀ k, 0 ≤ k → k < 400 → 0 ≤ T k) : zOK (qPaperLine T e M a f).1 ∧ qAt e (qPaperLine T e M a f).2.1 (qPaperLine T e M a f).2.2 := by
  have hr := qFig_bd (lo := 0) (hi := 11) ha he hT
  dsimp only [qPaperLine]
  generalize qFig T e 0 11 a f = r at hr ⊢
  have hb := qskip_bd (T := T) hr.1.2.1
  have h4 := h.1.m4
  generalize qscan qbl T e r.2.1 = b at hb ⊢
  obtain ⟨⟨r1, r2, r3, r4⟩, r5, r6, r7⟩ := hr
  have hs := qFig_bd (lo := 0) (hi := M 4 - 1) (a := b) (f := r.2.2) ⟨by omega, hb.2, r3, r4⟩ he hT
  generalize qFig T e 0 (M 4 - 1) b r.2.2 = s at hs ⊢
  obtain ⟨⟨s1, s2, s3, s4⟩, s5, s6, s7⟩ := hs
  generalize hg : (if s.2.2 = -1 ∧ ¬ qstands M s.1 12 = -1 ∧ ¬ qstands M s.1 12 = r.1 then b else s.2.2) = g
  have hg1 : -1 ≤ g ∧ g ≤ 400 ∧ (g = -1 → s.2.2 = -1) := by
    rw [← hg]
    split <;> omega
  refine ⟨?_, s1, s2, hg1.1, hg1.2.1⟩
  split
  · rename_i z
    have z2 := s5 (hg1.2.2 z)
    have z3 := r5 z2.2.2
    exact h.put (Or.inr (by omega)) (fun _ _ => Or.inr (by rw [zBd_P ⟨z3.1, by omega⟩]; exact ⟨by dsimp only; omega, by dsimp only; omega⟩))
  · exact h
