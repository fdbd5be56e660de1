/-! What a text of the coast leaves as it is. -/
def zKp (j : Int) : Prop := j ≤ 2 ∨ 426 ≤ j
theorem ite_k {c : Prop} [Decidable c] {A B : Int → Int} {j v : Int} (h1 : A j = v) (h2 : B j = v) : (if c then A else B) j = v := by
  split
  · exact h1
  · exact h2
theorem qSky5_k {T M : Int → Int} {s w j : Int} (hs : 0 ≤ s ∧ s ≤ 4) (hj : zKp j) : qSky5 T M s w 5 j = M j := by
  have := qSky5_at (T := T) (M := M) (s := s) (from9 := w) 5 j
  rw [show ((5 : Nat) : Int) = 5 from rfl] at this
  unfold zKp at hj
  rw [this, if_neg (by omega)]
theorem qTells_k {T : Int → Int} {e w lo hi a f : Int} {M : Int → Int} (hw : 3 ≤ w ∧ w < 426) {j : Int} (hj : zKp j) : (qTells T e M w lo hi a f).1 j = M j := by
  unfold zKp at hj
  unfold qTells
  dsimp only
  split
  · exact zput_ne (by omega)
  · rfl
theorem qPlaceLine_k {T : Int → Int} {e a f : Int} {M : Int → Int} (ha : qAt e a f) (he : e ≤ 400) (hT : ∀ k, 0 ≤ k → k < 400 → 0 ≤ T k) {j : Int} (hj : zKp j) : (qPlaceLine T e M a f).1 j = M j := by
  unfold zKp at hj
  have hr := qFig_bd (lo := 0) (hi := 7) ha he hT
  unfold qPlaceLine
  generalize qFig T e 0 7 a f = r at hr ⊢
  have hs := qAfter_bd (lo := 0) (hi := 9) (w := qw_exposed) hr.1 he hT
  generalize qAfter T e qw_exposed 0 9 r.2.1 r.2.2 = s at hs ⊢
  dsimp only
  split
  · rename_i z
    have z3 := hr.2.1 (hs.2.1 z).2.2
    exact zput_ne (by omega)
  · rfl
theorem qPaperLine_k {T : Int → Int} {e a f : Int} {M : Int → Int} (ha : qAt e a f) (he : e ≤ 400) (hT : ∀ k, 0 ≤ k → k < 400 → 0 ≤ T k) {j : Int} (hj : zKp j) : (qPaperLine T e M a f).1 j = M j := by
  unfold zKp at hj
  have hr := qFig_bd (lo := 0) (hi := 11) ha he hT
  dsimp only [qPaperLine]
  generalize qFig T e 0 11 a f = r at hr ⊢
  have hb := qskip_bd (T := T) hr.1.2.1
  generalize qscan qbl T e r.2.1 = b at hb ⊢
  obtain ⟨⟨r1, r2, r3, r4⟩, r5, r6, r7⟩ := hr
  have hs := qFig_bd (lo := 0) (hi := M 4 - 1) (a := b) (f := r.2.2) ⟨by omega, hb.2, r3, r4⟩ he hT
  generalize qFig T e 0 (M 4 - 1) b r.2.2 = s at hs ⊢
  obtain ⟨⟨s1, s2, s3, s4⟩, s5, s6, s7⟩ := hs
  generalize hg : (if s.2.2 = -1 ∧ ¬ qstands M s.1 12 = -1 ∧ ¬ qstands M s.1 12 = r.1 then b else s.2.2) = g
  have hg1 : g = -1 → s.2.2 = -1 := by
    rw [← hg]
    split <;> omega
  split
  · rename_i z
    have z2 := s5 (hg1 z)
    have z3 := r5 z2.2.2
    exact zput_ne (by omega)
  · rfl
theorem qMemberLine_k {T : Int → Int} {e beg a : Int} {M : Int → Int} (h : zOK M) {j : Int} (hj : zKp j) : (qMemberLine T e M beg a).1 j = M j := by
  unfold zKp at hj
  have h3 := h.1.m3
  dsimp only [qMemberLine]
  refine ite_k ?_ rfl
  unfold qMem
  rw [zput_ne (by omega), zput_ne (by omega), zput_ne (by omega), zput_ne (by omega), zput_ne (by omega)]
theorem qMotionLine_k {T : Int → Int} {e beg a : Int} {M : Int → Int} (h : zOK M) {j : Int} (hj : zKp j) : (qMotionLine T e M beg a).1 j = M j := by
  unfold zKp at hj
  have h4 := h.1.m4
  dsimp only [qMotionLine]
  refine ite_k ?_ rfl
  unfold qMot
  rw [zput_ne (by omega), zput_ne (by omega), zput_ne (by omega), zput_ne (by omega), zput_ne (by omega), zput_ne (by omega)]
theorem qSkyLine_k {T : Int → Int} {e a f : Int} {M : Int → Int} (ha : qAt e a f) (he : e ≤ 400) {j : Int} (hj : zKp j) : (qSkyLine T e M a f).1 j = M j := by
  have hr := qSky_bd (T := T) ha he
  dsimp only [qSkyLine]
  generalize qSky T e a f = r at hr ⊢
  exact ite_k (qSky5_k hr.2.2 hj) rfl
theorem qCoastLine_k {T : Int → Int} {e a : Int} {M : Int → Int} (h : zOK M) (ha : 0 ≤ a ∧ a ≤ e) (he : e ≤ 400) (hT : ∀ k, 0 ≤ k → k < 400 → 0 ≤ T k) {j : Int} (hj : zKp j) : (qCoastLine T e M a).1 j = M j := by
  have hbd := qskip_bd (T := T) ha.2
  dsimp only [qCoastLine]
  generalize qscan qbl T e a = b at hbd ⊢
  have hw : ∀ {w : List Int}, qhas T e b w → b + w.length ≤ e := fun z => qhas_bd z hbd.2
  by_cases w0 : qhas T e b qw_member
  · rw [zif_t w0]; exact qMemberLine_k h hj
  rw [zif_f w0]
  by_cases w1 : qhas T e b qw_motion
  · rw [zif_t w1]; exact qMotionLine_k h hj
  rw [zif_f w1]
  by_cases w2 : qhas T e b qw_sky
  · rw [zif_t w2]; exact qSkyLine_k ⟨by omega, hw w2, by decide, by decide⟩ he hj
  rw [zif_f w2]
  by_cases w3 : qhas T e b qw_now
  · rw [zif_t w3]
    dsimp only
    unfold zKp at hj
    split
    · exact zput_ne (by omega)
    · rfl
  rw [zif_f w3]
  by_cases w4 : qhas T e b qw_place
  · rw [zif_t w4]; exact qPlaceLine_k ⟨by omega, hw w4, by decide, by decide⟩ he hT hj
  rw [zif_f w4]
  by_cases w5 : qhas T e b qw_quorum
  · rw [zif_t w5]; exact qTells_k (by decide) hj
  rw [zif_f w5]
  by_cases w6 : qhas T e b qw_aye
  · rw [zif_t w6]; exact qTells_k (by decide) hj
  rw [zif_f w6]
  by_cases w7 : qhas T e b qw_wet
  · rw [zif_t w7]; exact qTells_k (by decide) hj
  rw [zif_f w7]
  by_cases w8 : qhas T e b qw_paper
  · rw [zif_t w8]; exact qPaperLine_k ⟨by omega, hw w8, by decide, by decide⟩ he hT hj
  rw [zif_f w8]
  by_cases w9 : qhas T e b qw_hour
  · rw [zif_t w9]; exact qTells_k (by decide) hj
  rw [zif_f w9]
  by_cases wa : qhas T e b qw_day
  · rw [zif_t wa]; exact qTells_k (by decide) hj
  rw [zif_f wa]
theorem qReadN_k {T : Int → Int} {e : Int} (he : e ≤ 400) (hT : ∀ k, 0 ≤ k → k < 400 → 0 ≤ T k) {j : Int} (hj : zKp j) : ∀ (k : Nat) (n : Int) (M : Int → Int) (a : Int), zOK M → 0 ≤ a → a ≤ e → (qReadN T e k n M a).2.1 j = M j := by
  intro k
  induction k with
  | zero => intro n M a h a0 a1; rfl
  | succ k ih =>
    intro n M a h a0 a1
    have hb := qskip_bd (T := T) a1
    unfold qReadN
    dsimp only
    generalize qscan qbl T e a = b at hb ⊢
    have hL := qCoastLine_ok (T := T) (e := e) (a := b) h ⟨by omega, hb.2⟩ he hT
    have hk := qCoastLine_k (T := T) (e := e) (a := b) h ⟨by omega, hb.2⟩ he hT hj
    generalize qCoastLine T e M b = L at hL hk ⊢
    have hc := qskip_bd (T := T) hL.2.2.1
    have hL0 := hL.2.1
    split
    · rfl
    · split
      · rename_i z1 z2
        split
        · exact (ih (n + 1) L.1 _ hL.1 (by omega) (by omega)).trans hk
        · exact hk
      · exact hk
theorem qRead_k {T : Int → Int} {e : Int} (he : 0 ≤ e ∧ e ≤ 400) (hT : ∀ k, 0 ≤ k → k < 400 → 0 ≤ T k) {M : Int → Int} (h : zOK M) {j : Int} (hj : zKp j) : (qRead T e M 0).2.1 j = M j := by
  have hb := qskip_bd (T := T) he.1
  unfold qRead
  split
  · exact qReadN_k he.2 hT hj 15 0 M _ h (by omega) (by omega)
  · rfl
