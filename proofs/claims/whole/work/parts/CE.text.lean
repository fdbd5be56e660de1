/-! A text of the coast. -/
theorem zOC.kp {M M' : Int → Int} (h : zOC M) (ho : zOK M') (e : ∀ j, 426 ≤ j ∨ j = 3 ∨ j = 4 ∨ (114 ≤ j ∧ j < 126) ∨ (74 ≤ j ∧ j < 114 ∧ (j - 74) % 5 = 0) → M' j = M j) : zOC M' :=
  h.m ⟨ho, fun i i0 i1 => by rw [e _ (by omega)]; exact h.ol.2 i i0 i1⟩ (fun j hj => e j (by omega))
theorem qTells_OC {T : Int → Int} {e w lo hi a f : Int} {M : Int → Int} (h : zOC M) (ho : zOK (qTells T e M w lo hi a f).1) (hw : 5 ≤ w ∧ w < 13) : zOC (qTells T e M w lo hi a f).1 := by
  refine h.kp ho (fun j hj => ?_)
  unfold qTells
  dsimp only
  split
  · exact zput_ne (by omega)
  · rfl
theorem qMemberLine_OC {T : Int → Int} {e beg a : Int} {M : Int → Int} (h : zOC M) (hbg : 0 ≤ beg) (ho : zOK (qMemberLine T e M beg a).1) : zOC (qMemberLine T e M beg a).1 := by
  have hm3 := h.I.m3
  have hm4 := h.I.m4
  by_cases c : M 3 < 7
  · rw [qMemberLine_e (by omega) rfl rfl rfl rfl] at ho ⊢
    dsimp only at ho ⊢
    generalize qAfter T e qw_at 0 7 a (-1) = r at ho ⊢
    generalize qSeats T e r.2.1 r.2.2 = s at ho ⊢
    generalize qOpt T e qw_hat s.2.1 s.2.2 = H at ho ⊢
    generalize qOpt T e qw_in H.2 s.2.2 = I at ho ⊢
    by_cases z : s.2.2 = -1
    · rw [if_pos z] at ho ⊢
      have e1 : ∀ j, j ≠ 3 → ¬ (46 ≤ j ∧ j < 74) → qMem M r.1 s.1 H.1 I.1 j = M j := by
        intro j j1 j2
        unfold qMem
        rw [zput_ne j1, zput_ne (by omega), zput_ne (by omega), zput_ne (by omega), zput_ne (by omega)]
      have e3 : qMem M r.1 s.1 H.1 I.1 3 = M 3 + 1 := by unfold qMem; rw [zput_eq]
      refine ⟨⟨ho, fun i i0 i1 => ?_⟩, fun p q p0 p1 q0 q1 => ?_, fun k k0 k1 => ?_, fun t t0 t1 => ?_⟩
      · rw [e1 _ (by omega) (by omega)]; exact h.ol.2 i i0 i1
      · rw [e1 _ (by omega) (by omega), e1 _ (by omega) (by omega)]; exact h.pap p q p0 p1 q0 q1
      · rw [e1 4 (by omega) (by omega)] at k1
        rw [e1 _ (by omega) (by omega), e3]
        have := h.mv k k0 k1
        omega
      · rw [e1 _ (by omega) (by omega), e1 4 (by omega) (by omega)]; exact h.pa t t0 t1
    · rw [if_neg z]
      exact h
  · have h7 : M 3 = 7 := by omega
    have hM : (qMemberLine T e M beg a).1 = M := by
      unfold qMemberLine
      dsimp only
      rw [if_pos h7, qAfter_x (f := beg) (by omega), qSeats_x (f := beg) (by omega)]
      exact if_neg (by show ¬ beg = -1; omega)
    rw [hM]
    exact h
theorem qMotionLine_OC {T : Int → Int} {e beg a : Int} {M : Int → Int} (h : zOC M) (ha : 0 ≤ a ∧ a ≤ e) (hbg : 0 ≤ beg ∧ beg ≤ 400) (he : e ≤ 400) (hT : ∀ k, 0 ≤ k → k < 400 → 0 ≤ T k) (ho : zOK (qMotionLine T e M beg a).1) : zOC (qMotionLine T e M beg a).1 := by
  have hm3 := h.I.m3
  have hm4 := h.I.m4
  by_cases c : M 4 < 8
  · have hr := qAfter_bd (T := T) (e := e) (w := qw_of) (lo := 0) (hi := M 3 - 1) (a := a) (f := -1) ⟨ha.1, ha.2, by decide, by decide⟩ he hT
    rw [qMotionLine_e (by omega) rfl rfl rfl rfl] at ho ⊢
    dsimp only at ho ⊢
    generalize qAfter T e qw_of 0 (M 3 - 1) a (-1) = r at hr ho ⊢
    by_cases hr1 : r.2.2 = -1
    · have hr2 := hr.2.1 hr1
      generalize qAfter T e qw_takes 1 9 r.2.1 r.2.2 = s at ho ⊢
      generalize qAfter T e qw_worth 0 99 s.2.1 s.2.2 = t at ho ⊢
      generalize qFor T e (M 3) r.1 t.2.1 t.2.2 = w at ho ⊢
      by_cases z : w.2.2 = -1
      · rw [if_pos z] at ho ⊢
        have e1 : ∀ j, j ≠ 4 → ¬ (74 + 5 * M 4 ≤ j ∧ j < 79 + 5 * M 4) → qMot M r.1 s.1 t.1 w.1 j = M j := by
          intro j j1 j2
          unfold qMot
          rw [zput_ne j1, zput_ne (by omega), zput_ne (by omega), zput_ne (by omega), zput_ne (by omega), zput_ne (by omega)]
        have e4 : qMot M r.1 s.1 t.1 w.1 4 = M 4 + 1 := by unfold qMot; rw [zput_eq]
        have e0 : qMot M r.1 s.1 t.1 w.1 (74 + 5 * M 4 + 0) = r.1 := by
          unfold qMot
          rw [zput_ne (by omega), zput_ne (by omega), zput_ne (by omega), zput_ne (by omega), zput_ne (by omega), zput_eq]
        refine ⟨⟨ho, fun i i0 i1 => ?_⟩, fun p q p0 p1 q0 q1 => ?_, fun k k0 k1 => ?_, fun t t0 t1 => ?_⟩
        · rw [e1 _ (by omega) (by omega)]; exact h.ol.2 i i0 i1
        · rw [e1 _ (by omega) (by omega), e1 _ (by omega) (by omega)]; exact h.pap p q p0 p1 q0 q1
        · rw [e4] at k1
          rw [e1 3 (by omega) (by omega)]
          by_cases ck : k = M 4
          · rw [ck, e0]; omega
          · rw [e1 _ (by omega) (by omega)]; exact h.mv k k0 (by omega)
        · rw [e1 _ (by omega) (by omega), e4]
          have := h.pa t t0 t1
          omega
      · rw [if_neg z]
        exact h
    · rw [qAfter_x (f := r.2.2) hr1]
      dsimp only
      rw [qAfter_x (f := r.2.2) hr1]
      dsimp only
      rw [qFor_x (f := r.2.2) hr1]
      dsimp only
      rw [if_neg hr1]
      exact h
  · have h8 : M 4 = 8 := by omega
    have hM : (qMotionLine T e M beg a).1 = M := by
      unfold qMotionLine
      dsimp only
      rw [if_pos h8, qAfter_x (f := beg) (by omega), qAfter_x (f := beg) (by omega), qAfter_x (f := beg) (by omega), qFor_x (f := beg) (by omega)]
      exact if_neg (by show ¬ beg = -1; omega)
    rw [hM]
    exact h
theorem qPaperLine_e {T : Int → Int} {e a f : Int} {M : Int → Int} {r s : Int × Int × Int} (hr : qFig T e 0 11 a f = r) (hs : qFig T e 0 (M 4 - 1) (qscan qbl T e r.2.1) r.2.2 = s) : qPaperLine T e M a f = (if (if s.2.2 = -1 ∧ ¬ qstands M s.1 12 = -1 ∧ ¬ qstands M s.1 12 = r.1 then qscan qbl T e r.2.1 else s.2.2) = -1 then zput M (114 + r.1) s.1 else M, s.2.1, if s.2.2 = -1 ∧ ¬ qstands M s.1 12 = -1 ∧ ¬ qstands M s.1 12 = r.1 then qscan qbl T e r.2.1 else s.2.2) := by
  subst hr hs
  rfl
theorem qPaperLine_OC {T : Int → Int} {e a : Int} {M : Int → Int} (h : zOC M) (ha : 0 ≤ a ∧ a ≤ e) (he : e ≤ 400) (hT : ∀ k, 0 ≤ k → k < 400 → 0 ≤ T k) (ho : zOK (qPaperLine T e M a (-1)).1) : zOC (qPaperLine T e M a (-1)).1 := by
  have hm3 := h.I.m3
  have hm4 := h.I.m4
  have hr := qFig_bd (T := T) (e := e) (lo := 0) (hi := 11) (a := a) (f := -1) ⟨ha.1, ha.2, by decide, by decide⟩ he hT
  rw [qPaperLine_e rfl rfl] at ho ⊢
  dsimp only at ho ⊢
  generalize qFig T e 0 11 a (-1) = r at hr ho ⊢
  have hb := qskip_bd (T := T) hr.1.2.1
  have hs := qFig_bd (T := T) (e := e) (lo := 0) (hi := M 4 - 1) (a := qscan qbl T e r.2.1) (f := r.2.2) ⟨by have := hr.1.1; omega, hb.2, hr.1.2.2.1, hr.1.2.2.2⟩ he hT
  generalize qFig T e 0 (M 4 - 1) (qscan qbl T e r.2.1) r.2.2 = s at hs ho ⊢
  by_cases z : (if s.2.2 = -1 ∧ ¬ qstands M s.1 12 = -1 ∧ ¬ qstands M s.1 12 = r.1 then qscan qbl T e r.2.1 else s.2.2) = -1
  · rw [if_pos z] at ho ⊢
    have hq0 : 0 ≤ qscan qbl T e r.2.1 := by have := hr.1.1; omega
    have hnb : ¬ (s.2.2 = -1 ∧ ¬ qstands M s.1 12 = -1 ∧ ¬ qstands M s.1 12 = r.1) := fun q => by rw [if_pos q] at z; omega
    have hs1 : s.2.2 = -1 := by rw [if_neg hnb] at z; exact z
    have hs2 := hs.2.1 hs1
    have hr2 := hr.2.1 hs2.2.2
    have hst : qstands M s.1 12 = -1 ∨ qstands M s.1 12 = r.1 := Classical.byContradiction (fun c => hnb ⟨hs1, fun q => c (Or.inl q), fun q => c (Or.inr q)⟩)
    have hsp : (qstands M s.1 12 = -1 ∧ ∀ i, 0 ≤ i → i < 12 → M (114 + i) ≠ s.1) ∨ (0 ≤ qstands M s.1 12 ∧ qstands M s.1 12 < 12 ∧ M (114 + qstands M s.1 12) = s.1) := qstands_sp M s.1 12
    have hno : ∀ t, 0 ≤ t → t < 12 → t ≠ r.1 → M (114 + t) ≠ s.1 := by
      intro t t0 t1 tr q
      rcases hsp with ⟨a1, a2⟩ | ⟨a1, a2, a3⟩
      · exact a2 t t0 t1 q
      · have := h.pap t _ t0 t1 a1 a2 (by rw [a3]; exact q) (by rw [q]; omega)
        omega
    have hout : ∀ j, ¬ (114 ≤ j ∧ j < 126) → zput M (114 + r.1) s.1 j = M j := fun j hj => zput_ne (by omega)
    have hin : ∀ t, t ≠ r.1 → zput M (114 + r.1) s.1 (114 + t) = M (114 + t) := fun t ht => zput_ne (by omega)
    have hat : zput M (114 + r.1) s.1 (114 + r.1) = s.1 := zput_eq
    refine ⟨⟨ho, fun i i0 i1 => ?_⟩, fun p q p0 p1 q0 q1 pq pn => ?_, fun k k0 k1 => ?_, fun t t0 t1 => ?_⟩
    · rw [hout _ (by omega)]; exact h.ol.2 i i0 i1
    · by_cases c1 : p = r.1
      · by_cases c2 : q = r.1
        · omega
        · rw [c1, hat, hin q c2] at pq
          exact absurd pq.symm (hno q q0 q1 c2)
      · by_cases c2 : q = r.1
        · rw [c2, hat, hin p c1] at pq
          exact absurd pq (hno p p0 p1 c1)
        · rw [hin p c1, hin q c2] at pq
          rw [hin p c1] at pn
          exact h.pap p q p0 p1 q0 q1 pq pn
    · rw [hout 4 (by omega)] at k1
      rw [hout _ (by omega), hout 3 (by omega)]; exact h.mv k k0 k1
    · rw [hout 4 (by omega)]
      by_cases c : t = r.1
      · rw [c, hat]; omega
      · rw [hin t c]; exact h.pa t t0 t1
  · rw [if_neg z]
    exact h
theorem qCoastLine_OC {T : Int → Int} {e a : Int} {M : Int → Int} (h : zOC M) (ha : 0 ≤ a ∧ a ≤ e) (he : e ≤ 400) (hT : ∀ k, 0 ≤ k → k < 400 → 0 ≤ T k) : zOC (qCoastLine T e M a).1 := by
  have hbd := qskip_bd (T := T) ha.2
  have hw : ∀ {w : List Int}, qhas T e (qscan qbl T e a) w → qscan qbl T e a + w.length ≤ e := fun z => qhas_bd z hbd.2
  have ho := (qCoastLine_ok h.ol.1 ha he hT).1
  dsimp only [qCoastLine] at ho ⊢
  generalize qscan qbl T e a = b at hbd hw ho ⊢
  by_cases w0 : qhas T e b qw_member
  · rw [zif_t w0] at ho ⊢; exact qMemberLine_OC h (by omega) ho
  rw [zif_f w0] at ho ⊢
  by_cases w1 : qhas T e b qw_motion
  · rw [zif_t w1] at ho ⊢; exact qMotionLine_OC h ⟨by omega, hw w1⟩ ⟨by omega, by omega⟩ he hT ho
  rw [zif_f w1] at ho ⊢
  by_cases w2 : qhas T e b qw_sky
  · rw [zif_t w2] at ho ⊢
    refine h.kp ho (fun j hj => ?_)
    have hsk := qSky_bd (T := T) (e := e) (a := b + 3) (f := -1) ⟨by omega, hw w2, by decide, by decide⟩ he
    have key : ∀ g k f9 : Int, 0 ≤ k → k ≤ 4 → (if g = -1 then qSky5 T M k f9 5 else M) j = M j := by
      intro g k f9 k0 k1
      split
      · show qSky5 T M k f9 (5 : Nat) j = M j
        rw [qSky5_at, if_neg (by omega)]
      · rfl
    rw [qSkyLine_e rfl rfl]
    exact key _ _ _ hsk.2.2.1 hsk.2.2.2
  rw [zif_f w2] at ho ⊢
  by_cases w3 : qhas T e b qw_now
  · rw [zif_t w3] at ho ⊢
    refine h.kp ho (fun j hj => ?_)
    dsimp only
    split
    · exact zput_ne (by omega)
    · rfl
  rw [zif_f w3] at ho ⊢
  by_cases w4 : qhas T e b qw_place
  · rw [zif_t w4] at ho ⊢
    refine h.kp ho (fun j hj => ?_)
    have hr := qFig_bd (T := T) (e := e) (lo := 0) (hi := 7) (a := b + 5) (f := -1) ⟨by omega, hw w4, by decide, by decide⟩ he hT
    unfold qPlaceLine
    dsimp only
    split
    · rename_i z
      have hr1 : (qFig T e 0 7 (b + 5) (-1)).2.2 = -1 := by
        refine Classical.byContradiction (fun c => ?_)
        rw [qAfter_x c] at z
        exact c z
      have := hr.2.1 hr1
      exact zput_ne (by omega)
    · rfl
  rw [zif_f w4] at ho ⊢
  by_cases w5 : qhas T e b qw_quorum
  · rw [zif_t w5] at ho ⊢; exact qTells_OC h ho (by decide)
  rw [zif_f w5] at ho ⊢
  by_cases w6 : qhas T e b qw_aye
  · rw [zif_t w6] at ho ⊢; exact qTells_OC h ho (by decide)
  rw [zif_f w6] at ho ⊢
  by_cases w7 : qhas T e b qw_wet
  · rw [zif_t w7] at ho ⊢; exact qTells_OC h ho (by decide)
  rw [zif_f w7] at ho ⊢
  by_cases w8 : qhas T e b qw_paper
  · rw [zif_t w8] at ho ⊢; exact qPaperLine_OC h ⟨by omega, hw w8⟩ he hT ho
  rw [zif_f w8] at ho ⊢
  by_cases w9 : qhas T e b qw_hour
  · rw [zif_t w9] at ho ⊢; exact qTells_OC h ho (by decide)
  rw [zif_f w9] at ho ⊢
  by_cases wa : qhas T e b qw_day
  · rw [zif_t wa] at ho ⊢; exact qTells_OC h ho (by decide)
  rw [zif_f wa]
  exact h
