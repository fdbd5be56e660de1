/-! Rests; the most that six trials bring. -/
theorem qGone_f {M : Int → Int} {k n : Int} {j : Int} (h : (j - 46) % 4 ≠ 3 ∨ j < 46 ∨ 46 + 4 * n ≤ j) : qGone M k n j = M j := qGone_out (by omega)
theorem qOuts_gone {M : Int → Int} (hM : zOL M) (k : Int) : qOuts (qGone M k (M 3)) = zand (qOuts M) (M (74 + 5 * k + 3)) := by
  have h3 := hM.1.1.m3
  have hG := (qGone_OL hM k (M 3) h3.1 h3.2).1
  have e3 : qGone M k (M 3) 3 = M 3 := qGone_f (by omega)
  refine zbit_ext ?_ (zand_in _ _) (fun p p0 p1 => ?_)
  · unfold qOuts
    rw [e3]
    exact zors_in _ h3.1
  · rw [qOuts_B hG ⟨p0, p1⟩, zbit_and ⟨p0, p1⟩, qOuts_B hM.1 ⟨p0, p1⟩, e3]
    unfold qGone
    by_cases hp : p < M 3
    · by_cases hb : zbit (M (74 + 5 * k + 3)) p = 1
      · rw [if_neg (fun z => z.2.2.2 (by rw [show (46 + 4 * p + 3 - 46) / 4 = p by omega]; exact hb))]
        exact ⟨fun z => ⟨z, hb⟩, fun z => z.1⟩
      · rw [if_pos ⟨by omega, by omega, by omega, by rw [show (46 + 4 * p + 3 - 46) / 4 = p by omega]; exact hb⟩]
        exact ⟨fun z => absurd z.2 (by decide), fun z => absurd z.2 hb⟩
    · exact ⟨fun z => absurd z.1 hp, fun z => absurd z.1.1 hp⟩
theorem qAsk_gone {M : Int → Int} (hM : zOL M) {c p s k h : Int} (hp : 0 ≤ p ∧ p < 7) (hs : 0 ≤ s ∧ s < 5) (hk : -1 ≤ k ∧ k < 8) (hh : 0 ≤ h ∧ h < 12) : qAsk (qGone M c (M 3)) p s k h = qAsk M p s k h := by
  have hU := hM.1.1.U (p := p) hp
  have h3 := hM.1.1.m3
  have f : ∀ j, (j - 46) % 4 ≠ 3 ∨ j < 46 ∨ 46 + 4 * M 3 ≤ j → qGone M c (M 3) j = M j := fun j hj => qGone_f hj
  refine qAsk_e hM hp hs hk hh (f _ (by omega)) (f _ (by omega)) (fun i i0 i1 => f _ (by omega)) ?_ ?_ ?_
  · unfold qFacts
    rw [f (46 + 4 * p + 0) (by omega), f (46 + 4 * p + 1) (by omega), f (38 + M (46 + 4 * p + 0)) (by omega)]
    funext j
    by_cases e : k = -1
    · rw [if_pos e, if_pos e, if_pos e]
    · rw [f (74 + 5 * k + 2) (by omega)]
  · unfold qHat; rw [f (46 + 4 * p + 2) (by omega)]
  · unfold qMov
    by_cases e : k = -1
    · rw [if_pos e, if_pos e]
    · rw [f (74 + 5 * k + 0) (by omega)]
theorem qGoO_gone {M : Int → Int} (hM : zOC M) {c k s h O Fo : Int} (hk : 0 ≤ k ∧ k < 8) (hs : 0 ≤ s ∧ s < 5) (hh : 0 ≤ h ∧ h < 12) : qGoO (qGone M c (M 3)) k s h O Fo = qGoO M k s h O Fo := by
  have hI := hM.I
  have h3 := hI.m3
  have hV := hI.V hk
  have hU := hI.U (p := M (74 + 5 * k + 0)) ⟨hV.1.1, by omega⟩
  have f : ∀ j, (j - 46) % 4 ≠ 3 ∨ j < 46 ∨ 46 + 4 * M 3 ≤ j → qGone M c (M 3) j = M j := fun j hj => qGone_f hj
  have a5 := f (74 + 5 * k + 0) (by omega)
  have ea := qAsk_gone hM.ol (c := c) (p := M (74 + 5 * k + 0)) (k := k) ⟨hV.1.1, by omega⟩ hs ⟨by omega, by omega⟩ hh
  have es : ∀ set, qSeat (qGone M c (M 3)) set (M 3) = qSeat M set (M 3) := fun set => zsum_congr (fun t t0 t1 => by rw [f _ (by omega)])
  have el : qLapse (qGone M c (M 3)) k s h = qLapse M k s h := by unfold qLapse; rw [a5, ea]
  have ef : qFeltO (qGone M c (M 3)) (M (74 + 5 * k + 0)) s k h O = qFeltO M (M (74 + 5 * k + 0)) s k h O := by unfold qFeltO; rw [ea, f 1 (by omega), f (46 + 4 * M (74 + 5 * k + 0) + 2) (by omega), f (46 + 4 * M (74 + 5 * k + 0) + 0) (by omega), f (38 + M (46 + 4 * M (74 + 5 * k + 0) + 0)) (by omega)]
  have ev : ∀ a, qVoteO (qGone M c (M 3)) a s O Fo = qVoteO M a s O Fo := by intro a; unfold qVoteO; rw [f 3 (by omega), f 10 (by omega), es, es]
  unfold qGoO
  rw [el, a5, ef, ev, f 8 (by omega), f 9 (by omega)]
theorem qGo_gone {M : Int → Int} (hM : zOC M) {k s h : Int} (hk : 0 ≤ k ∧ k < M 4) (hs : 0 ≤ s ∧ s < 5) (hh : 0 ≤ h ∧ h < 12) : qGo (qGone M k (M 3)) k s h = qGoO M k s h (zand (qOuts M) (M (74 + 5 * k + 3))) (M (74 + 5 * k + 3)) := by
  have h3 := hM.I.m3
  have h4 := hM.I.m4
  have hG := (qGone_OL hM.ol k (M 3) h3.1 h3.2).1
  have f : ∀ j, (j - 46) % 4 ≠ 3 ∨ j < 46 ∨ 46 + 4 * M 3 ≤ j → qGone M k (M 3) j = M j := fun j hj => qGone_f hj
  have hm := hM.mb hk
  rw [← qGoO_q hG (k := k) (by rw [f _ (by omega), f 3 (by omega)]; exact hm) s h, qOuts_gone hM.ol, f (74 + 5 * k + 3) (by omega), qGoO_gone hM ⟨hk.1, by omega⟩ hs hh]
noncomputable def qGain (M : Int → Int) (k O : Int) : Int := if qGoO M k (M 5) (M 6) O (M (74 + 5 * k + 3)) = 1 then M (74 + 5 * k + 2) else -5
theorem qGain_0 {M : Int → Int} (hM : zOC M) {k : Int} (hk : 0 ≤ k ∧ k < M 4) : qGain M k (qOuts M) = qMoved M k 0 := by
  unfold qGain qMoved
  rw [qGoO_q hM.ol.1 (hM.mb hk), if_pos (show (0 : Int) = 0 from rfl)]
theorem qGain_1 {M : Int → Int} (hM : zOC M) {k : Int} (hk : 0 ≤ k ∧ k < M 4) : qGain M k (zand (qOuts M) (M (74 + 5 * k + 3))) = qMoved M k 1 := by
  have h5 := hM.I.s 5 rfl (by omega)
  have h6 := hM.I.s 6 rfl (by omega)
  unfold qGain qMoved
  rw [if_neg (show ¬ (1 : Int) = 0 by decide), qGo_gone hM hk ⟨h5.1, by omega⟩ ⟨h6.1, by omega⟩]
theorem c_X11_gainOfMoving {G : zG} {lay : zLay} {σ C0 : zMem} {nx x : Int} (hT : TopL lay x) {k O : Int} {M : Int → Int} (hR : CoR lay x C0 σ (0 + 2) M) (hM : zOC M) (hk : 0 ≤ k ∧ k < M 4) (hO : 0 ≤ O ∧ O < 256) : zMM G 6 KX11_gainOfMoving [zP (x + 0), zI k, zI O] lay (tC x σ C0) nx (0, 0) (zY' (some (zI (qGain M k O))) (fun q C => zFc (0 + 2) σ C0 q C) lay nx x) := by
  refine z_met' (L := [zP (x + 0), zI k, zI O, zU, zU]) gX11_gainOfMoving.1 rfl rfl (Nat.le_of_ble_eq_true rfl) rfl ?_
  have hA := TpAt
  have hx := hT.1
  have hne : x + 0 ≠ -1 := by omega
  have hD := isCo.now
  have h5 := hM.I.s 5 rfl (by omega)
  have h6 := hM.I.s 6 rfl (by omega)
  have hm4 := hM.I.m4
  have hV := hM.I.V (k := k) ⟨hk.1, by omega⟩
  have hg := qGoO_bd M k (M 5) (M 6) O (M (74 + 5 * k + 3))
  have hmo := hR.1.mo.2.1 k hk.1 hk.2
  unfold qGain
  refine z_al0 eX11_gainOfMoving_0 hne ?_
  first | refine z_ta0 lX11_20 eX11_gainOfMoving_1 rfl hT hA (by decide) rfl rfl ?_ | refine z_ta lX11_20 eX11_gainOfMoving_1 rfl hT hA ⟨by decide, by decide⟩ rfl rfl ?_
  first | refine z_ta0 lX11_154 eX11_gainOfMoving_4 rfl hT hD (by decide) rfl rfl ?_ | refine z_ta lX11_154 eX11_gainOfMoving_4 rfl hT hD ⟨by decide, by decide⟩ rfl rfl ?_
  first | refine z_ta0 lX11_180 eX11_gainOfMoving_7 rfl hT hD.mo (by decide) rfl rfl ?_ | refine z_ta lX11_180 eX11_gainOfMoving_7 rfl hT hD.mo ⟨by decide, by decide⟩ rfl rfl ?_
  refine z_il1 eX11_gainOfMoving_10 ?_
  refine z_tl eX11_gainOfMoving_11 hT hD.mo ⟨by decide, by decide⟩ rfl rfl ⟨by omega, by omega⟩ ?_
  rw [hmo.2.2.2.1]
  refine z_is3 eX11_gainOfMoving_12 (Nat.ne_of_beq_eq_false rfl) ?_
  refine z_al0 eX11_gainOfMoving_13 hne ?_
  first | refine z_ta0 lX11_20 eX11_gainOfMoving_14 rfl hT hA (by decide) rfl rfl ?_ | refine z_ta lX11_20 eX11_gainOfMoving_14 rfl hT hA ⟨by decide, by decide⟩ rfl rfl ?_
  refine z_il1 eX11_gainOfMoving_17 ?_
  refine z_al0 eX11_gainOfMoving_18 hne ?_
  first | refine z_ta0 lX11_20 eX11_gainOfMoving_19 rfl hT hA (by decide) rfl rfl ?_ | refine z_ta lX11_20 eX11_gainOfMoving_19 rfl hT hA ⟨by decide, by decide⟩ rfl rfl ?_
  first | refine z_ta0 lX11_194 eX11_gainOfMoving_22 rfl hT hD (by decide) rfl rfl ?_ | refine z_ta lX11_194 eX11_gainOfMoving_22 rfl hT hD ⟨by decide, by decide⟩ rfl rfl ?_
  first | refine z_tg0 (j := 0) lX11_399 eX11_gainOfMoving_25 rfl hT hD.we (by decide) rfl rfl rfl ?_ | refine z_tg (j := 0) lX11_399 eX11_gainOfMoving_25 rfl hT hD.we ⟨by decide, by decide⟩ rfl rfl rfl ?_
  rw [hR.1.we.1.1]
  refine z_al0 eX11_gainOfMoving_28 hne ?_
  first | refine z_ta0 lX11_20 eX11_gainOfMoving_29 rfl hT hA (by decide) rfl rfl ?_ | refine z_ta lX11_20 eX11_gainOfMoving_29 rfl hT hA ⟨by decide, by decide⟩ rfl rfl ?_
  first | refine z_ta0 lX11_194 eX11_gainOfMoving_32 rfl hT hD (by decide) rfl rfl ?_ | refine z_ta lX11_194 eX11_gainOfMoving_32 rfl hT hD ⟨by decide, by decide⟩ rfl rfl ?_
  first | refine z_tg0 (j := 1) lX11_215 eX11_gainOfMoving_35 rfl hT hD.we (by decide) rfl rfl rfl ?_ | refine z_tg (j := 1) lX11_215 eX11_gainOfMoving_35 rfl hT hD.we ⟨by decide, by decide⟩ rfl rfl rfl ?_
  rw [hR.1.we.1.2.1]
  refine z_il2 eX11_gainOfMoving_38 ?_
  refine z_il3 eX11_gainOfMoving_39 ?_
  refine z_V5y eX11_gainOfMoving_40 vX11_402 rfl rfl (Nat.le_of_ble_eq_true rfl) (Nat.le_of_ble_eq_true rfl) ((hD).L0 hT (by decide)) (c_X1_outcome hT hD hR.1 hR.2 hM ⟨h5.1, by omega⟩ hk ⟨h6.1, by omega⟩ hO) (fun s40 C40 hs40 => ?_)
  have hm2 := ((hR.fc hs40).1.mo.2.1 k hk.1 hk.2).2.2.1
  refine z_is4 eX11_gainOfMoving_43 (Nat.ne_of_beq_eq_false rfl) ?_
  refine z_il4 eX11_gainOfMoving_45 ?_
  refine z_iconst eX11_gainOfMoving_47 ?_
  refine z_icmp_ne (tgt := 66) eX11_gainOfMoving_48 rfl ⟨⟨by omega, by omega⟩, ⟨by omega, by omega⟩⟩ (fun h48 => ?_) (fun h48 => ?_)
  · refine z_bipush eX11_gainOfMoving_66 (by decide) ?_
    refine z_ireturn eX11_gainOfMoving_68 rfl ?_
    first | (rw [if_pos (by omega)]; exact zYe hs40 rfl) | (rw [if_neg (by omega)]; exact zYe hs40 rfl)
  · refine z_al0 eX11_gainOfMoving_51 hne ?_
    first | refine z_ta0 lX11_20 eX11_gainOfMoving_52 rfl hT hA (by decide) rfl rfl ?_ | refine z_ta lX11_20 eX11_gainOfMoving_52 rfl hT hA ⟨by decide, by decide⟩ rfl rfl ?_
    first | refine z_ta0 lX11_154 eX11_gainOfMoving_55 rfl hT hD (by decide) rfl rfl ?_ | refine z_ta lX11_154 eX11_gainOfMoving_55 rfl hT hD ⟨by decide, by decide⟩ rfl rfl ?_
    first | refine z_ta0 lX11_177 eX11_gainOfMoving_58 rfl hT hD.mo (by decide) rfl rfl ?_ | refine z_ta lX11_177 eX11_gainOfMoving_58 rfl hT hD.mo ⟨by decide, by decide⟩ rfl rfl ?_
    refine z_il1 eX11_gainOfMoving_61 ?_
    refine z_tl eX11_gainOfMoving_62 hT hD.mo ⟨by decide, by decide⟩ rfl rfl ⟨by omega, by omega⟩ ?_
    rw [hm2]
    refine z_goto eX11_gainOfMoving_63 (tgt := 68) rfl ?_
    refine z_ireturn eX11_gainOfMoving_68 rfl ?_
    first | (rw [if_pos (by omega)]; exact zYe hs40 rfl) | (rw [if_neg (by omega)]; exact zYe hs40 rfl)
/-- which of the four rest, by what moving gains with the others out and with them in -/
def qRs (u v : Int) : Int :=
  if u ≤ 0 then zor (if 0 ≤ v ∧ v ≤ u then zor (if 0 ≤ u ∧ u ≤ v then zor 0 1 else 0) 2 else (if 0 ≤ u ∧ u ≤ v then zor 0 1 else 0)) 4 else (if 0 ≤ v ∧ v ≤ u then zor (if 0 ≤ u ∧ u ≤ v then zor 0 1 else 0) 2 else (if 0 ≤ u ∧ u ≤ v then zor 0 1 else 0))
theorem qRests_4 (M : Int → Int) (k : Int) : qRests M k 4 = qRs (qMoved M k 0) (qMoved M k 1) := by
  have s : ∀ i : Int, 0 ≤ i → qRests M k (i + 1) = if qMvH M k (1 - i / 2) (i % 2) ≤ qMvH M k (i / 2) (i % 2) ∧ qOtH M k (i / 2) (1 - i % 2) ≤ qOtH M k (i / 2) (i % 2) then zor (qRests M k i) (zshl 1 i) else qRests M k i := fun i i0 => by unfold qRests; rw [zfold_s _ _ i0]
  have m1 : ∀ b, qMvH M k 1 b = 0 := fun b => if_pos rfl
  have m0 : ∀ b, qMvH M k 0 b = qMoved M k b := fun b => if_neg (by decide)
  have o1 : ∀ b, qOtH M k 1 b = -b := fun b => if_pos rfl
  have o0 : ∀ b, qOtH M k 0 b = -qMoved M k b := fun b => if_neg (by decide)
  have e0 : qRests M k 1 = if qMvH M k 1 0 ≤ qMvH M k 0 0 ∧ qOtH M k 0 1 ≤ qOtH M k 0 0 then zor 0 1 else 0 := s 0 (by decide)
  have e1 : qRests M k 2 = if qMvH M k 1 1 ≤ qMvH M k 0 1 ∧ qOtH M k 0 0 ≤ qOtH M k 0 1 then zor (qRests M k 1) 2 else qRests M k 1 := s 1 (by decide)
  have e2 : qRests M k 3 = if qMvH M k 0 0 ≤ qMvH M k 1 0 ∧ qOtH M k 1 1 ≤ qOtH M k 1 0 then zor (qRests M k 2) 4 else qRests M k 2 := s 2 (by decide)
  have e3 : qRests M k 4 = if qMvH M k 0 1 ≤ qMvH M k 1 1 ∧ qOtH M k 1 0 ≤ qOtH M k 1 1 then zor (qRests M k 3) 8 else qRests M k 3 := s 3 (by decide)
  rw [m1, m0, o0, o0] at e0
  rw [m1, m0, o0, o0] at e1
  rw [m0, m1, o1, o1] at e2
  rw [m0, m1, o1, o1, if_neg (by omega)] at e3
  rw [e3, e2, e1, e0]
  generalize qMoved M k 0 = u
  generalize qMoved M k 1 = v
  unfold qRs
  (repeat' split) <;> first | rfl | omega
theorem zand_256 {a c : Int} (h : 0 ≤ a ∧ a < 128) : 0 ≤ zand a c ∧ zand a c < 256 := by
  have := zB_of (x := zand a c) (n := 8) (zand_in _ _) (by decide) (fun k k0 k1 => by rw [zB_and, zB_lt (n := 7) h.1 (by omega) h.2 (by omega), Bool.false_and])
  exact this
theorem c_X11_rests {G : zG} {lay : zLay} {σ C0 : zMem} {nx x : Int} (hT : TopL lay x) {k : Int} {M : Int → Int} (hR : CoR lay x C0 σ (0 + 2) M) (hM : zOC M) (hk : zin k) : zMM G 8 KX11_rests [zP (x + 0), zI k] lay (tC x σ C0) nx (1, 6) (zGd (0 ≤ k ∧ k < M 4) zEb lay (tC x σ C0) nx (zY' (some (zI (if M (74 + 5 * k + 4) = 0 then qRests M k 4 else -1))) (fun q C => zFc (0 + 2) σ C0 q C) lay nx x)) := by
  refine z_met' (L := [zP (x + 0), zI k, zU, zU, zU]) gX11_rests.1 rfl rfl (Nat.le_of_ble_eq_true rfl) rfl ?_
  have hA := TpAt
  have hx := hT.1
  have hne : x + 0 ≠ -1 := by omega
  have hD := isCo.now
  have hm4 := hM.I.m4
  have ho := qOuts_256 hM.ol.1
  have hVk : 0 ≤ k ∧ k < M 4 → _ := fun z => hM.I.V (k := k) ⟨z.1, by omega⟩
  have b0 : 0 ≤ k ∧ k < M 4 → _ := fun z => qMoved_bd hM.ol.1 (k := k) ⟨z.1, by omega⟩ 0
  have b1 : 0 ≤ k ∧ k < M 4 → _ := fun z => qMoved_bd hM.ol.1 (k := k) ⟨z.1, by omega⟩ 1
  rw [qRests_4]
  refine z_al0 eX11_rests_0 hne ?_
  refine z_il1 eX11_rests_1 ?_
  refine z_ndV1 (n := 0) eX11_rests_2 vX11_168 rfl rfl (Nat.le_of_ble_eq_true rfl) (Nat.le_of_ble_eq_true rfl) (hA.L0 hT (by decide)) (c_X11_needMotion hT hR.1 hM (by assumption)) (fun hP2 => ?_) (fun hN2 => (by first | exact Or.inr ⟨(by first | assumption | exact ⟨by omega, by omega⟩ | omega), rfl, rfl, rfl, rfl⟩))
  have hV := hVk hP2
  have c0 := b0 hP2
  have c1 := b1 hP2
  refine z_al0 eX11_rests_5 hne ?_
  first | refine z_ta0 lX11_20 eX11_rests_6 rfl hT hA (by decide) rfl rfl ?_ | refine z_ta lX11_20 eX11_rests_6 rfl hT hA ⟨by decide, by decide⟩ rfl rfl ?_
  first | refine z_ta0 lX11_154 eX11_rests_9 rfl hT hD (by decide) rfl rfl ?_ | refine z_ta lX11_154 eX11_rests_9 rfl hT hD ⟨by decide, by decide⟩ rfl rfl ?_
  first | refine z_ta0 lX11_183 eX11_rests_12 rfl hT hD.mo (by decide) rfl rfl ?_ | refine z_ta lX11_183 eX11_rests_12 rfl hT hD.mo ⟨by decide, by decide⟩ rfl rfl ?_
  refine z_il1 eX11_rests_15 ?_
  refine z_tl eX11_rests_16 hT hD.mo ⟨by decide, by decide⟩ rfl rfl ⟨by omega, by omega⟩ ?_
  rw [(hR.1.mo.2.1 k hP2.1 hP2.2).2.2.2.2]
  refine z_if_eq (tgt := 22) eX11_rests_17 rfl ⟨by omega, by omega⟩ (fun h17 => ?_) (fun h17 => ?_)
  · refine z_al0 eX11_rests_22 hne ?_
    refine z_il1 eX11_rests_23 ?_
    refine z_al0 eX11_rests_24 hne ?_
    first | refine z_ta0 lX11_20 eX11_rests_25 rfl hT hA (by decide) rfl rfl ?_ | refine z_ta lX11_20 eX11_rests_25 rfl hT hA ⟨by decide, by decide⟩ rfl rfl ?_
    first | refine z_tg0 (j := 5) lX11_147 eX11_rests_28 rfl hT hD (by decide) rfl rfl rfl ?_ | refine z_tg (j := 5) lX11_147 eX11_rests_28 rfl hT hD ⟨by decide, by decide⟩ rfl rfl rfl ?_
    rw [hR.1.ou]
    refine z_V2y eX11_rests_31 vX11_396 rfl rfl (Nat.le_of_ble_eq_true rfl) (Nat.le_of_ble_eq_true rfl) ((hA).L0 hT (by decide)) (c_X11_gainOfMoving hT hR hM hP2 ⟨by omega, by omega⟩) (fun s31 C31 hs31 => ?_)
    rw [qGain_0 hM hP2]
    have hR1 := hR.fc hs31
    refine z_is2 eX11_rests_34 (Nat.ne_of_beq_eq_false rfl) ?_
    refine z_al0 eX11_rests_35 hne ?_
    refine z_il1 eX11_rests_36 ?_
    refine z_al0 eX11_rests_37 hne ?_
    first | refine z_ta0 lX11_20 eX11_rests_38 rfl hT hA (by decide) rfl rfl ?_ | refine z_ta lX11_20 eX11_rests_38 rfl hT hA ⟨by decide, by decide⟩ rfl rfl ?_
    first | refine z_tg0 (j := 5) lX11_147 eX11_rests_41 rfl hT hD (by decide) rfl rfl rfl ?_ | refine z_tg (j := 5) lX11_147 eX11_rests_41 rfl hT hD ⟨by decide, by decide⟩ rfl rfl rfl ?_
    refine z_al0 eX11_rests_44 hne ?_
    first | refine z_ta0 lX11_20 eX11_rests_45 rfl hT hA (by decide) rfl rfl ?_ | refine z_ta lX11_20 eX11_rests_45 rfl hT hA ⟨by decide, by decide⟩ rfl rfl ?_
    first | refine z_ta0 lX11_154 eX11_rests_48 rfl hT hD (by decide) rfl rfl ?_ | refine z_ta lX11_154 eX11_rests_48 rfl hT hD ⟨by decide, by decide⟩ rfl rfl ?_
    first | refine z_ta0 lX11_180 eX11_rests_51 rfl hT hD.mo (by decide) rfl rfl ?_ | refine z_ta lX11_180 eX11_rests_51 rfl hT hD.mo ⟨by decide, by decide⟩ rfl rfl ?_
    refine z_il1 eX11_rests_54 ?_
    refine z_tl eX11_rests_55 hT hD.mo ⟨by decide, by decide⟩ rfl rfl ⟨by omega, by omega⟩ ?_
    rw [hR1.1.ou, (hR1.1.mo.2.1 k hP2.1 hP2.2).2.2.2.1]
    refine z_iand eX11_rests_56 ?_
    refine z_V2y eX11_rests_57 vX11_396 rfl rfl (Nat.le_of_ble_eq_true rfl) (Nat.le_of_ble_eq_true rfl) ((hA).L0 hT (by decide)) (c_X11_gainOfMoving hT hR1 hM hP2 (zand_256 ho)) (fun s57 C57 hs57 => ?_)
    rw [qGain_1 hM hP2]
    rw [if_pos (show M (74 + 5 * k + 4) = 0 by omega)]
    generalize qMoved M k 0 = u at c0 ⊢
    generalize qMoved M k 1 = v at c1 ⊢
    refine z_is3 eX11_rests_60 (Nat.ne_of_beq_eq_false rfl) ?_
    refine z_iconst eX11_rests_61 ?_
    refine z_is4 eX11_rests_62 (Nat.ne_of_beq_eq_false rfl) ?_
    refine z_il2 eX11_rests_64 ?_
    refine z_if_lt (tgt := 79) eX11_rests_65 rfl ⟨by omega, by omega⟩ (fun h65 => ?_) (fun h65 => ?_)
    · refine z_il3 eX11_rests_79 ?_
      refine z_if_lt (tgt := 94) eX11_rests_80 rfl ⟨by omega, by omega⟩ (fun h80 => ?_) (fun h80 => ?_)
      · refine z_il2 eX11_rests_94 ?_
        refine z_if_gt (tgt := 104) eX11_rests_95 rfl ⟨by omega, by omega⟩ (fun h95 => ?_) (fun h95 => ?_)
        · refine z_il4 eX11_rests_104 ?_
          refine z_ireturn eX11_rests_106 rfl ?_
          exact Or.inl ⟨hP2, zYe (zFc.trans hs31 hs57) (by unfold qRs; (repeat' split) <;> first | rfl | omega)⟩
        · refine z_il4 eX11_rests_98 ?_
          refine z_iconst eX11_rests_100 ?_
          refine z_ior eX11_rests_101 ?_
          refine z_is4 eX11_rests_102 (Nat.ne_of_beq_eq_false rfl) ?_
          refine z_il4 eX11_rests_104 ?_
          refine z_ireturn eX11_rests_106 rfl ?_
          exact Or.inl ⟨hP2, zYe (zFc.trans hs31 hs57) (by unfold qRs; (repeat' split) <;> first | rfl | omega)⟩
      · refine z_il3 eX11_rests_83 ?_
        refine z_il2 eX11_rests_84 ?_
        refine z_icmp_gt (tgt := 94) eX11_rests_85 rfl ⟨⟨by omega, by omega⟩, ⟨by omega, by omega⟩⟩ (fun h85 => ?_) (fun h85 => ?_)
        · refine z_il2 eX11_rests_94 ?_
          refine z_if_gt (tgt := 104) eX11_rests_95 rfl ⟨by omega, by omega⟩ (fun h95 => ?_) (fun h95 => ?_)
          · refine z_il4 eX11_rests_104 ?_
            refine z_ireturn eX11_rests_106 rfl ?_
            exact Or.inl ⟨hP2, zYe (zFc.trans hs31 hs57) (by unfold qRs; (repeat' split) <;> first | rfl | omega)⟩
          · refine z_il4 eX11_rests_98 ?_
            refine z_iconst eX11_rests_100 ?_
            refine z_ior eX11_rests_101 ?_
            refine z_is4 eX11_rests_102 (Nat.ne_of_beq_eq_false rfl) ?_
            refine z_il4 eX11_rests_104 ?_
            refine z_ireturn eX11_rests_106 rfl ?_
            exact Or.inl ⟨hP2, zYe (zFc.trans hs31 hs57) (by unfold qRs; (repeat' split) <;> first | rfl | omega)⟩
        · refine z_il4 eX11_rests_88 ?_
          refine z_iconst eX11_rests_90 ?_
          refine z_ior eX11_rests_91 ?_
          refine z_is4 eX11_rests_92 (Nat.ne_of_beq_eq_false rfl) ?_
          refine z_il2 eX11_rests_94 ?_
          refine z_if_gt (tgt := 104) eX11_rests_95 rfl ⟨by omega, by omega⟩ (fun h95 => ?_) (fun h95 => ?_)
          · refine z_il4 eX11_rests_104 ?_
            refine z_ireturn eX11_rests_106 rfl ?_
            exact Or.inl ⟨hP2, zYe (zFc.trans hs31 hs57) (by unfold qRs; (repeat' split) <;> first | rfl | omega)⟩
          · refine z_il4 eX11_rests_98 ?_
            refine z_iconst eX11_rests_100 ?_
            refine z_ior eX11_rests_101 ?_
            refine z_is4 eX11_rests_102 (Nat.ne_of_beq_eq_false rfl) ?_
            refine z_il4 eX11_rests_104 ?_
            refine z_ireturn eX11_rests_106 rfl ?_
            exact Or.inl ⟨hP2, zYe (zFc.trans hs31 hs57) (by unfold qRs; (repeat' split) <;> first | rfl | omega)⟩
    · refine z_il2 eX11_rests_68 ?_
      refine z_il3 eX11_rests_69 ?_
      refine z_icmp_gt (tgt := 79) eX11_rests_70 rfl ⟨⟨by omega, by omega⟩, ⟨by omega, by omega⟩⟩ (fun h70 => ?_) (fun h70 => ?_)
      · refine z_il3 eX11_rests_79 ?_
        refine z_if_lt (tgt := 94) eX11_rests_80 rfl ⟨by omega, by omega⟩ (fun h80 => ?_) (fun h80 => ?_)
        · refine z_il2 eX11_rests_94 ?_
          refine z_if_gt (tgt := 104) eX11_rests_95 rfl ⟨by omega, by omega⟩ (fun h95 => ?_) (fun h95 => ?_)
          · refine z_il4 eX11_rests_104 ?_
            refine z_ireturn eX11_rests_106 rfl ?_
            exact Or.inl ⟨hP2, zYe (zFc.trans hs31 hs57) (by unfold qRs; (repeat' split) <;> first | rfl | omega)⟩
          · refine z_il4 eX11_rests_98 ?_
            refine z_iconst eX11_rests_100 ?_
            refine z_ior eX11_rests_101 ?_
            refine z_is4 eX11_rests_102 (Nat.ne_of_beq_eq_false rfl) ?_
            refine z_il4 eX11_rests_104 ?_
            refine z_ireturn eX11_rests_106 rfl ?_
            exact Or.inl ⟨hP2, zYe (zFc.trans hs31 hs57) (by unfold qRs; (repeat' split) <;> first | rfl | omega)⟩
        · refine z_il3 eX11_rests_83 ?_
          refine z_il2 eX11_rests_84 ?_
          refine z_icmp_gt (tgt := 94) eX11_rests_85 rfl ⟨⟨by omega, by omega⟩, ⟨by omega, by omega⟩⟩ (fun h85 => ?_) (fun h85 => ?_)
          · refine z_il2 eX11_rests_94 ?_
            refine z_if_gt (tgt := 104) eX11_rests_95 rfl ⟨by omega, by omega⟩ (fun h95 => ?_) (fun h95 => ?_)
            · refine z_il4 eX11_rests_104 ?_
              refine z_ireturn eX11_rests_106 rfl ?_
              exact Or.inl ⟨hP2, zYe (zFc.trans hs31 hs57) (by unfold qRs; (repeat' split) <;> first | rfl | omega)⟩
            · refine z_il4 eX11_rests_98 ?_
              refine z_iconst eX11_rests_100 ?_
              refine z_ior eX11_rests_101 ?_
              refine z_is4 eX11_rests_102 (Nat.ne_of_beq_eq_false rfl) ?_
              refine z_il4 eX11_rests_104 ?_
              refine z_ireturn eX11_rests_106 rfl ?_
              exact Or.inl ⟨hP2, zYe (zFc.trans hs31 hs57) (by unfold qRs; (repeat' split) <;> first | rfl | omega)⟩
          · refine z_il4 eX11_rests_88 ?_
            refine z_iconst eX11_rests_90 ?_
            refine z_ior eX11_rests_91 ?_
            refine z_is4 eX11_rests_92 (Nat.ne_of_beq_eq_false rfl) ?_
            refine z_il2 eX11_rests_94 ?_
            refine z_if_gt (tgt := 104) eX11_rests_95 rfl ⟨by omega, by omega⟩ (fun h95 => ?_) (fun h95 => ?_)
            · refine z_il4 eX11_rests_104 ?_
              refine z_ireturn eX11_rests_106 rfl ?_
              exact Or.inl ⟨hP2, zYe (zFc.trans hs31 hs57) (by unfold qRs; (repeat' split) <;> first | rfl | omega)⟩
            · refine z_il4 eX11_rests_98 ?_
              refine z_iconst eX11_rests_100 ?_
              refine z_ior eX11_rests_101 ?_
              refine z_is4 eX11_rests_102 (Nat.ne_of_beq_eq_false rfl) ?_
              refine z_il4 eX11_rests_104 ?_
              refine z_ireturn eX11_rests_106 rfl ?_
              exact Or.inl ⟨hP2, zYe (zFc.trans hs31 hs57) (by unfold qRs; (repeat' split) <;> first | rfl | omega)⟩
      · refine z_il4 eX11_rests_73 ?_
        refine z_iconst eX11_rests_75 ?_
        refine z_ior eX11_rests_76 ?_
        refine z_is4 eX11_rests_77 (Nat.ne_of_beq_eq_false rfl) ?_
        refine z_il3 eX11_rests_79 ?_
        refine z_if_lt (tgt := 94) eX11_rests_80 rfl ⟨by omega, by omega⟩ (fun h80 => ?_) (fun h80 => ?_)
        · refine z_il2 eX11_rests_94 ?_
          refine z_if_gt (tgt := 104) eX11_rests_95 rfl ⟨by omega, by omega⟩ (fun h95 => ?_) (fun h95 => ?_)
          · refine z_il4 eX11_rests_104 ?_
            refine z_ireturn eX11_rests_106 rfl ?_
            exact Or.inl ⟨hP2, zYe (zFc.trans hs31 hs57) (by unfold qRs; (repeat' split) <;> first | rfl | omega)⟩
          · refine z_il4 eX11_rests_98 ?_
            refine z_iconst eX11_rests_100 ?_
            refine z_ior eX11_rests_101 ?_
            refine z_is4 eX11_rests_102 (Nat.ne_of_beq_eq_false rfl) ?_
            refine z_il4 eX11_rests_104 ?_
            refine z_ireturn eX11_rests_106 rfl ?_
            exact Or.inl ⟨hP2, zYe (zFc.trans hs31 hs57) (by unfold qRs; (repeat' split) <;> first | rfl | omega)⟩
        · refine z_il3 eX11_rests_83 ?_
          refine z_il2 eX11_rests_84 ?_
          refine z_icmp_gt (tgt := 94) eX11_rests_85 rfl ⟨⟨by omega, by omega⟩, ⟨by omega, by omega⟩⟩ (fun h85 => ?_) (fun h85 => ?_)
          · refine z_il2 eX11_rests_94 ?_
            refine z_if_gt (tgt := 104) eX11_rests_95 rfl ⟨by omega, by omega⟩ (fun h95 => ?_) (fun h95 => ?_)
            · refine z_il4 eX11_rests_104 ?_
              refine z_ireturn eX11_rests_106 rfl ?_
              exact Or.inl ⟨hP2, zYe (zFc.trans hs31 hs57) (by unfold qRs; (repeat' split) <;> first | rfl | omega)⟩
            · refine z_il4 eX11_rests_98 ?_
              refine z_iconst eX11_rests_100 ?_
              refine z_ior eX11_rests_101 ?_
              refine z_is4 eX11_rests_102 (Nat.ne_of_beq_eq_false rfl) ?_
              refine z_il4 eX11_rests_104 ?_
              refine z_ireturn eX11_rests_106 rfl ?_
              exact Or.inl ⟨hP2, zYe (zFc.trans hs31 hs57) (by unfold qRs; (repeat' split) <;> first | rfl | omega)⟩
          · refine z_il4 eX11_rests_88 ?_
            refine z_iconst eX11_rests_90 ?_
            refine z_ior eX11_rests_91 ?_
            refine z_is4 eX11_rests_92 (Nat.ne_of_beq_eq_false rfl) ?_
            refine z_il2 eX11_rests_94 ?_
            refine z_if_gt (tgt := 104) eX11_rests_95 rfl ⟨by omega, by omega⟩ (fun h95 => ?_) (fun h95 => ?_)
            · refine z_il4 eX11_rests_104 ?_
              refine z_ireturn eX11_rests_106 rfl ?_
              exact Or.inl ⟨hP2, zYe (zFc.trans hs31 hs57) (by unfold qRs; (repeat' split) <;> first | rfl | omega)⟩
            · refine z_il4 eX11_rests_98 ?_
              refine z_iconst eX11_rests_100 ?_
              refine z_ior eX11_rests_101 ?_
              refine z_is4 eX11_rests_102 (Nat.ne_of_beq_eq_false rfl) ?_
              refine z_il4 eX11_rests_104 ?_
              refine z_ireturn eX11_rests_106 rfl ?_
              exact Or.inl ⟨hP2, zYe (zFc.trans hs31 hs57) (by unfold qRs; (repeat' split) <;> first | rfl | omega)⟩
  · refine z_iconst eX11_rests_20 ?_
    refine z_ireturn eX11_rests_21 rfl ?_
    rw [if_neg (show ¬ M (74 + 5 * k + 4) = 0 by omega)]
    exact Or.inl ⟨hP2, zYe (zFc.refl _ _ _) rfl⟩
/-- the council that is tried has changed, and the stack of the law that is now -/
def zTr (σ C0 S C : zMem) : Prop := (∀ i, ¬ (20 ≤ i ∧ i < 38) → S i = σ i) ∧ zStk C0 (σ (0 + 2) 10) C
theorem zTr.refl (σ C0 : zMem) : zTr σ C0 σ C0 := ⟨fun _ _ => rfl, zStk.refl _ _⟩
theorem zTr.trans {σ C0 S C T D : zMem} (h : zTr σ C0 S C) (h2 : zTr S C T D) : zTr σ C0 T D :=
  ⟨fun i hi => by rw [h2.1 i hi]; exact h.1 i hi, h.2.trans (by have := h2.2; rwa [h.1 (0 + 2) (by omega)] at this)⟩
theorem zTr.R {lay : zLay} {x : Int} {σ C0 S C : zMem} {M : Int → Int} (h : zTr σ C0 S C) (hR : CoR lay x C0 σ (0 + 2) M) : CoR lay x C S (0 + 2) M := by
  have h1 := hR.out (s := S) (fun i i0 i1 => h.1 i (by omega))
  have h2 := h.2
  rw [← h.1 (0 + 2) (by omega)] at h2
  exact ⟨h1.1, h1.2.cg' h2⟩
theorem c_X11_span {G : zG} {lay : zLay} {σ C0 : zMem} {nx x : Int} (hT : TopL lay x) {n w : Int} {M : Int → Int} (hR : CoR lay x C0 σ (0 + 2) M) (hM : zOC M) (hn : zin n) (hw : w = 0 ∨ w = 1) : zMM G 8 KX11_span [zP (x + 0), zI n, zI w] lay (tC x σ C0) nx (1, 6) (zGd (0 ≤ n ∧ n ≤ 60) zEa lay (tC x σ C0) nx (zY' (some (zI (qSpan M n w 6))) (fun q C => zTr σ C0 q C) lay nx x)) := by
  refine z_met' (L := [zP (x + 0), zI n, zI w, zU, zU, zU, zU]) gX11_span.1 rfl rfl (Nat.le_of_ble_eq_true rfl) rfl ?_
  have hA := TpAt
  have hx := hT.1
  have hne : x + 0 ≠ -1 := by omega
  have hD := isCo.now
  have hTr : CoAt (0 + 20) := isCo.tried
  have hl : ∀ (Q : zQ), (∀ S C, zTr σ C0 S C → Q (.inl (some (zI (qSpan M n w 6)))) lay (tC x S C) nx) → 0 ≤ n ∧ n ≤ 60 → ∀ t : Int, 0 ≤ t → t ≤ 6 → ∀ (S C : zMem) (l g : Int) (y : zAV), zTr σ C0 S C → 0 ≤ l ∧ l ≤ 800 → 0 ≤ g ∧ g ≤ 800 → (0 < t → 0 ≤ qSpan M n w t) → (w = 1 → g = if qSpan M n w t = -1 then 0 else qSpan M n w t) → (w = 0 → l = if qSpan M n w t = -1 then 800 else qSpan M n w t) → zW G KX11_span 8 Q 17 [zP (x + 0), zI n, zI w, zI l, zI g, zI (t + 1), y] [] lay (tC x S C) nx (0, 0) := by
    intro Q hq hn1
    refine z_up 6 ?_ ?_
    · intro S C l g y hS hl hg h0 hg1 hl1
      have h6 := h0 (by decide)
      refine z_il5 eX11_span_17 ?_
      refine z_bipush eX11_span_19 (by decide) ?_
      refine z_icmp_gt (tgt := 87) eX11_span_21 rfl ⟨⟨by omega, by omega⟩, ⟨by omega, by omega⟩⟩ (fun h21 => ?_) (fun h21 => (by exfalso; omega))
      refine z_il2 eX11_span_87 ?_
      refine z_if_eq (tgt := 96) eX11_span_88 rfl ⟨by omega, by omega⟩ (fun h88 => ?_) (fun h88 => ?_)
      · refine z_il3 eX11_span_96 ?_
        refine z_ireturn eX11_span_97 rfl ?_
        first | (rw [hg1 (by omega), if_neg (by omega)]; exact hq _ _ hS) | (rw [hl1 (by omega), if_neg (by omega)]; exact hq _ _ hS) | fail
      · refine z_il4 eX11_span_91 ?_
        refine z_goto eX11_span_93 (tgt := 97) rfl ?_
        refine z_ireturn eX11_span_97 rfl ?_
        first | (rw [hg1 (by omega), if_neg (by omega)]; exact hq _ _ hS) | (rw [hl1 (by omega), if_neg (by omega)]; exact hq _ _ hS) | fail
    · intro t t0 t1 ih S C l g y hS hl hg h0 hg1 hl1
      have hv := qSpanV_bd hM.ol (t + 1) hn1.1
      have hqb := qSpan_bd hM.ol (w := w) hn1.1 t0
      have e : qSpan M n w (t + 1) = if qSpan M n w t = -1 then qSpanV M (t + 1) n else if w = 1 then qGr (qSpan M n w t) (qSpanV M (t + 1) n) else if qSpan M n w t < qSpanV M (t + 1) n then qSpan M n w t else qSpanV M (t + 1) n := by unfold qSpan; rw [zfold_s _ _ t0]
      rw [e] at ih
      have ev : qSpanV M (t + 1) n = qWorth (qPassN (zput M 12 (t + 1)) n).1 (qInSt (qPassN (zput M 12 (t + 1)) n).1 1) := rfl
      generalize qSpan M n w t = q at ih hqb h0 hg1 hl1 ⊢
      generalize qSpanV M (t + 1) n = v at ih hv ev ⊢
      unfold qGr at ih
      refine z_il5 eX11_span_17 ?_
      refine z_bipush eX11_span_19 (by decide) ?_
      refine z_icmp_gt (tgt := 87) eX11_span_21 rfl ⟨⟨by omega, by omega⟩, ⟨by omega, by omega⟩⟩ (fun h21 => (by exfalso; omega)) (fun h21 => ?_)
      refine z_al0 eX11_span_24 hne ?_
      refine z_il1 eX11_span_25 ?_
      refine z_il5 eX11_span_26 ?_
      refine z_V2y eX11_span_28 vX11_410 rfl rfl (Nat.le_of_ble_eq_true rfl) (Nat.le_of_ble_eq_true rfl) ((hA).L0 hT (by decide)) (c_X11_tryHours hT (hS.R hR) hM hn1) (fun s28 C28 hs28 => ?_)
      have hS2 := hS.trans ⟨hs28.2.2.1, hs28.2.2.2⟩
      have hm4 := hs28.2.1.I.m4
      refine z_pop eX11_span_31 (Nat.ne_of_beq_eq_false rfl) ?_
      refine z_al0 eX11_span_32 hne ?_
      first | refine z_ta0 lX11_24 eX11_span_33 rfl hT hA (by decide) rfl rfl ?_ | refine z_ta lX11_24 eX11_span_33 rfl hT hA ⟨by decide, by decide⟩ rfl rfl ?_
      first | refine z_ta0 lX11_154 eX11_span_36 rfl hT hTr (by decide) rfl rfl ?_ | refine z_ta lX11_154 eX11_span_36 rfl hT hTr ⟨by decide, by decide⟩ rfl rfl ?_
      refine z_al0 eX11_span_39 hne ?_
      first | refine z_ta0 lX11_24 eX11_span_40 rfl hT hA (by decide) rfl rfl ?_ | refine z_ta lX11_24 eX11_span_40 rfl hT hA ⟨by decide, by decide⟩ rfl rfl ?_
      first | refine z_ta0 lX11_154 eX11_span_43 rfl hT hTr (by decide) rfl rfl ?_ | refine z_ta lX11_154 eX11_span_43 rfl hT hTr ⟨by decide, by decide⟩ rfl rfl ?_
      first | refine z_ta0 lX11_177 eX11_span_46 rfl hT hTr.mo (by decide) rfl rfl ?_ | refine z_ta lX11_177 eX11_span_46 rfl hT hTr.mo ⟨by decide, by decide⟩ rfl rfl ?_
      refine z_al0 eX11_span_49 hne ?_
      first | refine z_ta0 lX11_24 eX11_span_50 rfl hT hA (by decide) rfl rfl ?_ | refine z_ta lX11_24 eX11_span_50 rfl hT hA ⟨by decide, by decide⟩ rfl rfl ?_
      first | refine z_ta0 lX11_154 eX11_span_53 rfl hT hTr (by decide) rfl rfl ?_ | refine z_ta lX11_154 eX11_span_53 rfl hT hTr ⟨by decide, by decide⟩ rfl rfl ?_
      refine z_iconst eX11_span_56 ?_
      refine z_V1 eX11_span_57 vX11_270 rfl rfl (Nat.le_of_ble_eq_true rfl) (Nat.le_of_ble_eq_true rfl) ((hTr.mo).L0 hT (by decide)) (c_X6_inState hT hTr.mo hs28.1.1.mo hs28.2.1.I (by decide)) ?_
      refine z_V2 eX11_span_60 vX11_290 rfl rfl (Nat.le_of_ble_eq_true rfl) (Nat.le_of_ble_eq_true rfl) ((hTr.mo).L0 hT (by decide)) (c_X6_sumOver hT hTr.mo hs28.1.1.mo hs28.2.1.I (w := 3) (f := fun k => (qPassN (zput M 12 (t + 1)) n).1 (74 + 5 * k + 2)) ⟨by decide, by decide⟩ (fun k k0 k1 => (hs28.1.1.mo.2.1 k k0 k1).2.2.1)) ?_
      rw [qSumOf_w 2, show zsum (fun k => if zbit (qInSt (qPassN (zput M 12 (t + 1)) n).1 1) k = 1 then (qPassN (zput M 12 (t + 1)) n).1 (74 + 5 * k + 2) else 0) ((qPassN (zput M 12 (t + 1)) n).1 4) = v from ev.symm]
      refine z_is6 eX11_span_63 (Nat.ne_of_beq_eq_false rfl) ?_
      refine z_il3 eX11_span_65 ?_
      refine z_il6 eX11_span_66 ?_
      refine z_min eX11_span_68 vX11_307 rfl (Nat.le_of_ble_eq_true rfl) (Nat.le_of_ble_eq_true rfl) ⟨⟨by omega, by omega⟩, ⟨by omega, by omega⟩⟩ ?_
      refine z_is3 eX11_span_71 (Nat.ne_of_beq_eq_false rfl) ?_
      refine z_il4 eX11_span_72 ?_
      refine z_il6 eX11_span_74 ?_
      refine z_max eX11_span_76 vX11_327 rfl (Nat.le_of_ble_eq_true rfl) (Nat.le_of_ble_eq_true rfl) ⟨⟨by omega, by omega⟩, ⟨by omega, by omega⟩⟩ ?_
      refine z_is4 eX11_span_79 (Nat.ne_of_beq_eq_false rfl) ?_
      refine z_ii5 eX11_span_81 (Nat.ne_of_beq_eq_false rfl) ?_
      refine z_goto eX11_span_84 (tgt := 17) rfl ?_
      rw [show t + 1 + 1 = (t + 1) + 1 from rfl]; refine ih _ _ _ _ _ hS2 ?_ ?_ ?_ ?_ ?_ <;> (try intro z) <;> (repeat' split) <;> omega
  refine z_il1 eX11_span_0 ?_
  refine z_iconst eX11_span_1 ?_
  refine z_bipush eX11_span_2 (by decide) ?_
  refine z_ndS3 (n := 0) eX11_span_4 vX11_226 rfl rfl (Nat.le_of_ble_eq_true rfl) (Nat.le_of_ble_eq_true rfl) (c_X11_needNumber hT (by assumption) ⟨by omega, by omega⟩ ⟨by omega, by omega⟩) (fun hP4 => ?_) (fun hN4 => (by first | exact Or.inr ⟨(by first | assumption | exact ⟨by omega, by omega⟩ | omega), rfl, rfl, rfl, rfl⟩))
  refine z_sipush eX11_span_7 (by decide) ?_
  refine z_is3 eX11_span_10 (Nat.ne_of_beq_eq_false rfl) ?_
  refine z_iconst eX11_span_11 ?_
  refine z_is4 eX11_span_12 (Nat.ne_of_beq_eq_false rfl) ?_
  refine z_iconst eX11_span_14 ?_
  refine z_is5 eX11_span_15 (Nat.ne_of_beq_eq_false rfl) ?_
  exact hl _ (fun S C hS => Or.inl ⟨hP4, zYe hS rfl⟩) hP4 0 (by decide) (by decide) σ C0 800 0 zU (zTr.refl _ _) ⟨by decide, by decide⟩ ⟨by decide, by decide⟩ (fun z => absurd z (by decide)) (fun _ => rfl) (fun _ => rfl)
