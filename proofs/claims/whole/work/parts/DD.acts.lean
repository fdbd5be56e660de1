/-! Acts remembered, undone; the image. -/
theorem rf56 {c : Int} (h : 0 ≤ c ∧ c < 12) : rfT 56 c = some (57 + 18 * c) := by
  show (if 0 ≤ c ∧ c < 12 then some (57 + 18 * c) else none) = _
  exact if_pos h
theorem z_past {G : zG} {k : zK} {D : Nat} {Q : zQ} {pc pc' : Nat} {L st : List zAV} {lay : zLay} {σ C0 : zMem} {nx x c : Int} {bb : Nat × Nat} (hd : zD k pc .aaload 1 pc') (hT : TopL lay x) (hc : 0 ≤ c ∧ c < 12) (w : zW G k D Q pc' L (zP (x + (57 + 18 * c)) :: st) lay (tC x σ C0) nx bb) : zW G k D Q pc L (zI c :: zP (x + (0 + 56)) :: st) lay (tC x σ C0) nx bb :=
  z_aaload (o := x + 56) hd (hT.2 56 (Or.inl ⟨by decide, by decide⟩)) hc (by rw [tC_s (Or.inl ⟨by decide, by decide⟩) (rf56 hc)]; exact w)
theorem CoR.out {lay : zLay} {x : Int} {C0 σ s : zMem} {b : Int} {M : Int → Int} (h : CoR lay x C0 σ b M) (h0 : ∀ i, b ≤ i → i < b + 18 → s i = σ i) : CoR lay x C0 s b M :=
  ⟨h.1.out (fun i i0 i1 _ _ => h0 _ (by omega) (by omega)), by rw [h0 b (by omega) (by omega)]; exact h.2⟩
/-- the rows remembered: n of them, from the oldest on -/
def PaR (lay : zLay) (x : Int) (C0 σ : zMem) (n : Int) (A : Int → Int → Int) : Prop := (0 ≤ σ 0 8 ∧ σ 0 8 < 12) ∧ σ 0 9 = n ∧ (0 ≤ n ∧ n ≤ 12) ∧ ∀ i, 0 ≤ i → i < n → CoR lay x C0 σ (57 + 18 * ((σ 0 8 + i) % 12)) (A i)
theorem PaR.out {lay : zLay} {x : Int} {C0 σ s : zMem} {n : Int} {A : Int → Int → Int} (h : PaR lay x C0 σ n A) (h0 : ∀ i, 57 ≤ i → i < 273 → s i = σ i) (h8 : s 0 8 = σ 0 8) (h9 : s 0 9 = σ 0 9) : PaR lay x C0 s n A := by
  obtain ⟨p1, p2, p3, p4⟩ := h
  refine ⟨by rw [h8]; exact p1, by rw [h9]; exact p2, p3, fun i i0 i1 => ?_⟩
  rw [h8]
  exact (p4 i i0 i1).out (fun j j0 j1 => h0 j (by omega) (by omega))
/-- another law has come or a law's stack has changed -/
theorem PaR.C {lay lay' : zLay} {x : Int} {C0 C σ : zMem} {n : Int} {A : Int → Int → Int} (h : PaR lay x C0 σ n A) (hc : ∀ p M, CoL lay x C0 p M → CoL lay' x C p M) : PaR lay' x C σ n A := by
  obtain ⟨p1, p2, p3, p4⟩ := h
  exact ⟨p1, p2, p3, fun i i0 i1 => ⟨(p4 i i0 i1).1, hc _ _ (p4 i i0 i1).2⟩⟩
/-- only the rows remembered and their numbers have changed -/
def zActs (σ s : zMem) : Prop := (∀ i, ¬ (57 ≤ i ∧ i < 273) → i ≠ 0 → s i = σ i) ∧ ∀ j, j ≠ 8 → j ≠ 9 → s 0 j = σ 0 j
def qPast (n : Int) (A : Int → Int → Int) (M : Int → Int) : Int → Int → Int := fun i => if n = 12 then (if i = 11 then M else A (i + 1)) else if i = n then M else A i
theorem c_X11_rememberNow {G : zG} {lay : zLay} {σ C0 : zMem} {nx x : Int} (hT : TopL lay x) {n : Int} {A : Int → Int → Int} {M : Int → Int} (hN : CoN σ (0 + 2) M) (hL : CoL lay x C0 (σ (0 + 2) 10) M) (hM : zInv M) (hP : PaR lay x C0 σ n A) : zMM G 4 KX11_rememberNow [zP (x + 0)] lay (tC x σ C0) nx (0, 0) (zZ' none (fun s => zActs σ s ∧ PaR lay x C0 s (if n = 12 then 12 else n + 1) (qPast n A M)) lay C0 nx x) := by
  refine z_met' (L := [zP (x + 0)]) gX11_rememberNow.1 rfl rfl (Nat.le_of_ble_eq_true rfl) rfl ?_
  have hA := TpAt
  have hx := hT.1
  have hne : x + 0 ≠ -1 := by omega
  have hD := isCo.now
  obtain ⟨Q, hQ⟩ : ∃ Q, zZ' none (fun s => zActs σ s ∧ PaR lay x C0 s (if n = 12 then 12 else n + 1) (qPast n A M)) lay C0 nx x = Q := ⟨_, rfl⟩
  have w28 : ∀ (S : zMem) (m : Int) (B : Int → Int → Int), zActs σ S → m ≤ 11 → PaR lay x C0 S m B → (∀ s, PaR lay x C0 s (m + 1) (fun i => if i = m then M else B i) → PaR lay x C0 s (if n = 12 then 12 else n + 1) (qPast n A M)) → zW G KX11_rememberNow 4 Q 28 [zP (x + 0)] [] lay (tC x S C0) nx (0, 0) := by
    intro S m B hS hm hPS hF
    subst hQ
    obtain ⟨⟨o0, o1⟩, p2, p3, p4⟩ := hPS
    obtain ⟨c, hc⟩ : ∃ c, (S 0 8 + m) % 12 = c := ⟨_, rfl⟩
    have hc2 : 0 ≤ c ∧ c < 12 := by omega
    have e2 : S (0 + 2) = σ (0 + 2) := hS.1 2 (by omega) (by omega)
    have hN' : CoN S (0 + 2) M := hN.out (fun i i0 i1 _ _ => hS.1 _ (by omega) (by omega))
    refine z_al0 eX11_rememberNow_28 hne ?_
    first | refine z_ta0 lX11_30 eX11_rememberNow_29 rfl hT hA (by decide) rfl rfl ?_ | refine z_ta lX11_30 eX11_rememberNow_29 rfl hT hA ⟨by decide, by decide⟩ rfl rfl ?_
    refine z_al0 eX11_rememberNow_32 hne ?_
    first | refine z_tg0 (j := 8) lX11_428 eX11_rememberNow_33 rfl hT hA (by decide) rfl rfl rfl ?_ | refine z_tg (j := 8) lX11_428 eX11_rememberNow_33 rfl hT hA ⟨by decide, by decide⟩ rfl rfl rfl ?_
    refine z_al0 eX11_rememberNow_36 hne ?_
    first | refine z_tg0 (j := 9) lX11_425 eX11_rememberNow_37 rfl hT hA (by decide) rfl rfl rfl ?_ | refine z_tg (j := 9) lX11_425 eX11_rememberNow_37 rfl hT hA ⟨by decide, by decide⟩ rfl rfl rfl ?_
    rw [p2]
    refine z_iadd eX11_rememberNow_40 ?_
    refine z_bipush eX11_rememberNow_41 (by decide) ?_
    refine z_irem eX11_rememberNow_43 ⟨by omega, by omega, by omega, by omega⟩ ?_
    rw [hc]
    refine z_past eX11_rememberNow_44 hT hc2 ?_
    refine z_al0 eX11_rememberNow_45 hne ?_
    first | refine z_ta0 lX11_20 eX11_rememberNow_46 rfl hT hA (by decide) rfl rfl ?_ | refine z_ta lX11_20 eX11_rememberNow_46 rfl hT hA ⟨by decide, by decide⟩ rfl rfl ?_
    refine z_V1vz eX11_rememberNow_49 vX11_107 rfl rfl (Nat.le_of_ble_eq_true rfl) (Nat.le_of_ble_eq_true rfl) (((isCo.past hc2)).L0 hT (by decide)) (c_X1_takeAll hT (isCo.past hc2) hD (by omega) hN' hM) (fun s49 hs49 => ?_)
    have e0 : s49 0 = S 0 := hs49.1 0 (by omega)
    refine z_al0 eX11_rememberNow_52 hne ?_
    refine z_dup eX11_rememberNow_53 (Nat.ne_of_beq_eq_false rfl) ?_
    first | refine z_tg0 (j := 9) lX11_425 eX11_rememberNow_54 rfl hT hA (by decide) rfl rfl rfl ?_ | refine z_tg (j := 9) lX11_425 eX11_rememberNow_54 rfl hT hA ⟨by decide, by decide⟩ rfl rfl rfl ?_
    refine z_iconst eX11_rememberNow_57 ?_
    refine z_iadd eX11_rememberNow_58 ?_
    rw [e0, p2]
    first | refine z_tp0 (j := 9) lX11_425 eX11_rememberNow_59 rfl hT hA (by decide) rfl rfl rfl ?_ | refine z_tp (j := 9) lX11_425 eX11_rememberNow_59 rfl hT hA ⟨by decide, by decide⟩ rfl rfl rfl ?_
    refine z_return eX11_rememberNow_62 rfl ?_
    refine zZv ⟨⟨fun i hi h0 => ?_, fun j j8 j9 => ?_⟩, hF _ ⟨?_, ?_, ⟨by omega, by omega⟩, fun i i0 i1 => ?_⟩⟩
    · rw [zset_o h0, hs49.1 i (by omega)]; exact hS.1 i hi h0
    · rw [zset_f j9, e0]; exact hS.2 j j8 j9
    · rw [zset_f (by decide), e0]; exact ⟨o0, o1⟩
    · rw [zset_eq]
    · rw [zset_f (by decide), e0]
      dsimp only
      by_cases hi : i = m
      · rw [if_pos hi, hi, hc]
        refine CoR.out (σ := s49) ⟨hs49.2.2, ?_⟩ (fun j j0 j1 => zset_o (by omega))
        rw [hs49.2.1, e2]; exact hL
      · rw [if_neg hi]
        exact (p4 i i0 (by omega)).out (fun j j0 j1 => by rw [zset_o (by omega)]; exact hs49.1 j (by omega))
  rw [hQ]
  obtain ⟨⟨o0, o1⟩, p2, p3, p4⟩ := hP
  refine z_al0 eX11_rememberNow_0 hne ?_
  first | refine z_tg0 (j := 9) lX11_425 eX11_rememberNow_1 rfl hT hA (by decide) rfl rfl rfl ?_ | refine z_tg (j := 9) lX11_425 eX11_rememberNow_1 rfl hT hA ⟨by decide, by decide⟩ rfl rfl rfl ?_
  refine z_bipush eX11_rememberNow_4 (by decide) ?_
  rw [p2]
  refine z_icmp_lt (tgt := 28) eX11_rememberNow_6 rfl ⟨⟨by omega, by omega⟩, ⟨by omega, by omega⟩⟩ (fun h6 => ?_) (fun h6 => ?_)
  · first | exact w28 σ n A ⟨fun _ _ _ => rfl, fun _ _ _ => rfl⟩ (by omega) ⟨⟨o0, o1⟩, p2, p3, p4⟩ (fun s h => by unfold qPast; rw [if_neg (by omega)]; simp only [if_neg (show ¬ n = 12 by omega)]; exact h) | exact w28 _ 11 (fun i => A (i + 1)) ⟨fun i _ h => by rw [zset_o h, zset_o h], fun j j8 j9 => by rw [zset_f j9, zset_f j8]⟩ (by decide) ⟨by rw [zset_f (by decide), zset_eq]; omega, zset_eq, by decide, fun i i0 i1 => by rw [zset_f (by decide), zset_eq, show ((σ 0 8 + 1) % 12 + i) % 12 = (σ 0 8 + (i + 1)) % 12 by omega]; exact (p4 (i + 1) (by omega) (by omega)).out (fun j j0 j1 => by rw [zset_o (by omega), zset_o (by omega)])⟩ (fun s h => by unfold qPast; rw [if_pos (by omega)]; simp only [if_pos (show n = 12 by omega)]; exact h)
  · refine z_al0 eX11_rememberNow_9 hne ?_
    refine z_al0 eX11_rememberNow_10 hne ?_
    first | refine z_tg0 (j := 8) lX11_428 eX11_rememberNow_11 rfl hT hA (by decide) rfl rfl rfl ?_ | refine z_tg (j := 8) lX11_428 eX11_rememberNow_11 rfl hT hA ⟨by decide, by decide⟩ rfl rfl rfl ?_
    refine z_iconst eX11_rememberNow_14 ?_
    refine z_iadd eX11_rememberNow_15 ?_
    refine z_bipush eX11_rememberNow_16 (by decide) ?_
    refine z_irem eX11_rememberNow_18 ⟨by omega, by omega, by omega, by omega⟩ ?_
    first | refine z_tp0 (j := 8) lX11_428 eX11_rememberNow_19 rfl hT hA (by decide) rfl rfl rfl ?_ | refine z_tp (j := 8) lX11_428 eX11_rememberNow_19 rfl hT hA ⟨by decide, by decide⟩ rfl rfl rfl ?_
    refine z_al0 eX11_rememberNow_22 hne ?_
    refine z_bipush eX11_rememberNow_23 (by decide) ?_
    first | refine z_tp0 (j := 9) lX11_425 eX11_rememberNow_25 rfl hT hA (by decide) rfl rfl rfl ?_ | refine z_tp (j := 9) lX11_425 eX11_rememberNow_25 rfl hT hA ⟨by decide, by decide⟩ rfl rfl rfl ?_
    first | exact w28 σ n A ⟨fun _ _ _ => rfl, fun _ _ _ => rfl⟩ (by omega) ⟨⟨o0, o1⟩, p2, p3, p4⟩ (fun s h => by unfold qPast; rw [if_neg (by omega)]; simp only [if_neg (show ¬ n = 12 by omega)]; exact h) | exact w28 _ 11 (fun i => A (i + 1)) ⟨fun i _ h => by rw [zset_o h, zset_o h], fun j j8 j9 => by rw [zset_f j9, zset_f j8]⟩ (by decide) ⟨by rw [zset_f (by decide), zset_eq]; omega, zset_eq, by decide, fun i i0 i1 => by rw [zset_f (by decide), zset_eq, show ((σ 0 8 + 1) % 12 + i) % 12 = (σ 0 8 + (i + 1)) % 12 by omega]; exact (p4 (i + 1) (by omega) (by omega)).out (fun j j0 j1 => by rw [zset_o (by omega), zset_o (by omega)])⟩ (fun s h => by unfold qPast; rw [if_pos (by omega)]; simp only [if_pos (show n = 12 by omega)]; exact h)
theorem c_X11_forgetActs {G : zG} {lay : zLay} {σ C0 : zMem} {nx x : Int} (hT : TopL lay x)  : zMM G 1 KX11_forgetActs [zP (x + 0)] lay (tC x σ C0) nx (0, 0) (zR none lay (tC x (zset (zset σ 0 9 0) 0 8 0) (C0)) nx) := by
  refine z_met' (L := [zP (x + 0)]) gX11_forgetActs.1 rfl rfl (Nat.le_of_ble_eq_true rfl) rfl ?_
  have hA := TpAt
  have hx := hT.1
  have hne : x + 0 ≠ -1 := by omega
  refine z_al0 eX11_forgetActs_0 hne ?_
  refine z_iconst eX11_forgetActs_1 ?_
  first | refine z_tp0 (j := 9) lX11_425 eX11_forgetActs_2 rfl hT hA (by decide) rfl rfl rfl ?_ | refine z_tp (j := 9) lX11_425 eX11_forgetActs_2 rfl hT hA ⟨by decide, by decide⟩ rfl rfl rfl ?_
  refine z_al0 eX11_forgetActs_5 hne ?_
  refine z_iconst eX11_forgetActs_6 ?_
  first | refine z_tp0 (j := 8) lX11_428 eX11_forgetActs_7 rfl hT hA (by decide) rfl rfl rfl ?_ | refine z_tp (j := 8) lX11_428 eX11_forgetActs_7 rfl hT hA ⟨by decide, by decide⟩ rfl rfl rfl ?_
  refine z_return eX11_forgetActs_10 rfl ?_
  exact ⟨rfl, rfl, rfl, rfl⟩
theorem c_X11_image {G : zG} {lay : zLay} {σ C0 : zMem} {nx x : Int} (hT : TopL lay x) {M : Int → Int} (hN : CoN σ (0 + 2) M) (hM : zInv M) : zMM G 4 KX11_image [zP (x + 0)] lay (tC x σ C0) nx (0, 0) (zZ' none (fun s => (∀ i, ¬ (38 ≤ i ∧ i < 56) → i ≠ 0 → s i = σ i) ∧ (∀ j, j ≠ 6 → s 0 j = σ 0 j) ∧ s 0 6 = 1 ∧ CoN s 38 M ∧ s 38 10 = σ (0 + 2) 10) lay C0 nx x) := by
  refine z_met' (L := [zP (x + 0)]) gX11_image.1 rfl rfl (Nat.le_of_ble_eq_true rfl) rfl ?_
  have hA := TpAt
  have hx := hT.1
  have hne : x + 0 ≠ -1 := by omega
  have hD := isCo.now
  refine z_al0 eX11_image_0 hne ?_
  first | refine z_ta0 lX11_27 eX11_image_1 rfl hT hA (by decide) rfl rfl ?_ | refine z_ta lX11_27 eX11_image_1 rfl hT hA ⟨by decide, by decide⟩ rfl rfl ?_
  refine z_al0 eX11_image_4 hne ?_
  first | refine z_ta0 lX11_20 eX11_image_5 rfl hT hA (by decide) rfl rfl ?_ | refine z_ta lX11_20 eX11_image_5 rfl hT hA ⟨by decide, by decide⟩ rfl rfl ?_
  refine z_V1vz eX11_image_8 vX11_107 rfl rfl (Nat.le_of_ble_eq_true rfl) (Nat.le_of_ble_eq_true rfl) ((isCo.kept).L0 hT (by decide)) (c_X1_takeAll hT isCo.kept hD (by omega) hN hM) (fun s8 hs8 => ?_)
  have e0 : s8 0 = σ 0 := hs8.1 0 (by omega)
  refine z_al0 eX11_image_11 hne ?_
  refine z_iconst eX11_image_12 ?_
  first | refine z_tpz0 (j := 6) lX11_431 eX11_image_13 rfl hT hA (by decide) rfl rfl rfl (by first | exact Or.inl rfl | exact Or.inr rfl | assumption | omega) ?_ | refine z_tpz (j := 6) lX11_431 eX11_image_13 rfl hT hA ⟨by decide, by decide⟩ rfl rfl rfl (by first | exact Or.inl rfl | exact Or.inr rfl | assumption | omega) ?_
  refine z_return eX11_image_16 rfl ?_
  refine zZv ⟨fun i hi h0 => ?_, fun j j6 => ?_, zset_eq, ?_, ?_⟩
  · rw [zset_o h0]; exact hs8.1 i (by omega)
  · rw [zset_f j6, e0]
  · exact CoN.out (σ := s8) hs8.2.2 (fun i i0 i1 _ _ => zset_o (by omega))
  · rw [zset_o (by decide)]; exact hs8.2.1
theorem c_X11_back {G : zG} {lay : zLay} {σ C0 : zMem} {nx x : Int} (hT : TopL lay x) {K : Int → Int} (hk : σ 0 6 = 0 ∨ σ 0 6 = 1 ∧ CoN σ 38 K ∧ zInv K) : zMM G 4 KX11_back [zP (x + 0)] lay (tC x σ C0) nx (0, 0) (zZ' (some (zI (σ 0 6))) (fun s => (σ 0 6 = 0 ∧ s = σ) ∨ (σ 0 6 = 1 ∧ (∀ i, ¬ (2 ≤ i ∧ i < 20) → i ≠ 0 → s i = σ i) ∧ (∀ j, j ≠ 8 → j ≠ 9 → s 0 j = σ 0 j) ∧ s 0 8 = 0 ∧ s 0 9 = 0 ∧ CoN s (0 + 2) K ∧ s (0 + 2) 10 = σ 38 10)) lay C0 nx x) := by
  refine z_met' (L := [zP (x + 0)]) gX11_back.1 rfl rfl (Nat.le_of_ble_eq_true rfl) rfl ?_
  have hA := TpAt
  have hx := hT.1
  have hne : x + 0 ≠ -1 := by omega
  have hD := isCo.now
  have hk6 : σ 0 6 = 0 ∨ σ 0 6 = 1 := hk.elim Or.inl (fun h => Or.inr h.1)
  have hk1 : ¬ σ 0 6 = 0 → CoN σ 38 K ∧ zInv K := fun h => hk.elim (fun q => absurd q h) (fun q => q.2)
  refine z_al0 eX11_back_0 hne ?_
  first | refine z_tg0 (j := 6) lX11_431 eX11_back_1 rfl hT hA (by decide) rfl rfl rfl ?_ | refine z_tg (j := 6) lX11_431 eX11_back_1 rfl hT hA ⟨by decide, by decide⟩ rfl rfl rfl ?_
  refine z_if_ne (tgt := 9) eX11_back_4 rfl ⟨by omega, by omega⟩ (fun h4 => ?_) (fun h4 => ?_)
  · refine z_al0 eX11_back_9 hne ?_
    first | refine z_ta0 lX11_20 eX11_back_10 rfl hT hA (by decide) rfl rfl ?_ | refine z_ta lX11_20 eX11_back_10 rfl hT hA ⟨by decide, by decide⟩ rfl rfl ?_
    refine z_al0 eX11_back_13 hne ?_
    first | refine z_ta0 lX11_27 eX11_back_14 rfl hT hA (by decide) rfl rfl ?_ | refine z_ta lX11_27 eX11_back_14 rfl hT hA ⟨by decide, by decide⟩ rfl rfl ?_
    refine z_V1vz eX11_back_17 vX11_107 rfl rfl (Nat.le_of_ble_eq_true rfl) (Nat.le_of_ble_eq_true rfl) ((hD).L0 hT (by decide)) (c_X1_takeAll hT hD isCo.kept (by omega) (hk1 (by omega)).1 (hk1 (by omega)).2) (fun s17 hs17 => ?_)
    have e0 : s17 0 = σ 0 := hs17.1 0 (by omega)
    refine z_al0 eX11_back_20 hne ?_
    refine z_V0v eX11_back_21 vX11_111 rfl rfl (Nat.le_of_ble_eq_true rfl) (Nat.le_of_ble_eq_true rfl) ((hA).L0 hT (by decide)) (c_X11_forgetActs hT) ?_
    refine z_iconst eX11_back_24 ?_
    refine z_zreturn eX11_back_25 rfl (by first | exact Or.inl rfl | exact Or.inr rfl | exact zbi_01 _ | assumption | omega) ?_
    refine zZe (Or.inr ⟨by omega, fun i hi h0 => ?_, fun j j8 j9 => ?_, zset_eq, ?_, ?_, ?_⟩) (by omega)
    · rw [zset_o h0, zset_o h0]; exact hs17.1 i (by omega)
    · rw [zset_f j8, zset_f j9, e0]
    · rw [zset_f (by decide), zset_eq]
    · exact CoN.out (σ := s17) hs17.2.2 (fun i i0 i1 _ _ => by rw [zset_o (by omega), zset_o (by omega)])
    · rw [zset_o (by decide), zset_o (by decide)]; exact hs17.2.1
  · refine z_iconst eX11_back_7 ?_
    refine z_zreturn eX11_back_8 rfl (by first | exact Or.inl rfl | exact Or.inr rfl | exact zbi_01 _ | assumption | omega) ?_
    exact zZe (Or.inl ⟨by omega, rfl⟩) (by omega)
theorem c_X11_undo {G : zG} {lay : zLay} {σ C0 : zMem} {nx x : Int} (hT : TopL lay x) {n : Int} {A : Int → Int → Int} (hP : PaR lay x C0 σ n A) (hI : ∀ i, 0 ≤ i → i < n → zInv (A i)) : zMM G 4 KX11_undo [zP (x + 0)] lay (tC x σ C0) nx (0, 0) (zZ' (some (zI (if n = 0 then 0 else 1))) (fun s => (n = 0 ∧ s = σ) ∨ (0 < n ∧ (∀ i, ¬ (2 ≤ i ∧ i < 20) → i ≠ 0 → s i = σ i) ∧ (∀ j, j ≠ 9 → s 0 j = σ 0 j) ∧ s 0 9 = n - 1 ∧ CoN s (0 + 2) (A (n - 1)) ∧ s (0 + 2) 10 = σ (57 + 18 * ((σ 0 8 + (n - 1)) % 12)) 10)) lay C0 nx x) := by
  refine z_met' (L := [zP (x + 0)]) gX11_undo.1 rfl rfl (Nat.le_of_ble_eq_true rfl) rfl ?_
  have hA := TpAt
  have hx := hT.1
  have hne : x + 0 ≠ -1 := by omega
  have hD := isCo.now
  obtain ⟨⟨o0, o1⟩, p2, p3, p4⟩ := hP
  obtain ⟨c, hc⟩ : ∃ c, (σ 0 8 + (n - 1)) % 12 = c := ⟨_, rfl⟩
  have hc2 : 0 ≤ c ∧ c < 12 := by omega
  refine z_al0 eX11_undo_0 hne ?_
  first | refine z_tg0 (j := 9) lX11_425 eX11_undo_1 rfl hT hA (by decide) rfl rfl rfl ?_ | refine z_tg (j := 9) lX11_425 eX11_undo_1 rfl hT hA ⟨by decide, by decide⟩ rfl rfl rfl ?_
  rw [p2]
  refine z_if_gt (tgt := 9) eX11_undo_4 rfl ⟨by omega, by omega⟩ (fun h4 => ?_) (fun h4 => ?_)
  · refine z_al0 eX11_undo_9 hne ?_
    refine z_dup eX11_undo_10 (Nat.ne_of_beq_eq_false rfl) ?_
    first | refine z_tg0 (j := 9) lX11_425 eX11_undo_11 rfl hT hA (by decide) rfl rfl rfl ?_ | refine z_tg (j := 9) lX11_425 eX11_undo_11 rfl hT hA ⟨by decide, by decide⟩ rfl rfl rfl ?_
    refine z_iconst eX11_undo_14 ?_
    refine z_isub eX11_undo_15 ?_
    rw [p2]
    first | refine z_tp0 (j := 9) lX11_425 eX11_undo_16 rfl hT hA (by decide) rfl rfl rfl ?_ | refine z_tp (j := 9) lX11_425 eX11_undo_16 rfl hT hA ⟨by decide, by decide⟩ rfl rfl rfl ?_
    refine z_al0 eX11_undo_19 hne ?_
    first | refine z_ta0 lX11_20 eX11_undo_20 rfl hT hA (by decide) rfl rfl ?_ | refine z_ta lX11_20 eX11_undo_20 rfl hT hA ⟨by decide, by decide⟩ rfl rfl ?_
    refine z_al0 eX11_undo_23 hne ?_
    first | refine z_ta0 lX11_30 eX11_undo_24 rfl hT hA (by decide) rfl rfl ?_ | refine z_ta lX11_30 eX11_undo_24 rfl hT hA ⟨by decide, by decide⟩ rfl rfl ?_
    refine z_al0 eX11_undo_27 hne ?_
    first | refine z_tg0 (j := 8) lX11_428 eX11_undo_28 rfl hT hA (by decide) rfl rfl rfl ?_ | refine z_tg (j := 8) lX11_428 eX11_undo_28 rfl hT hA ⟨by decide, by decide⟩ rfl rfl rfl ?_
    refine z_al0 eX11_undo_31 hne ?_
    first | refine z_tg0 (j := 9) lX11_425 eX11_undo_32 rfl hT hA (by decide) rfl rfl rfl ?_ | refine z_tg (j := 9) lX11_425 eX11_undo_32 rfl hT hA ⟨by decide, by decide⟩ rfl rfl rfl ?_
    rw [zset_eq, zset_f (show (8 : Int) ≠ 9 by decide)]
    refine z_iadd eX11_undo_35 ?_
    refine z_bipush eX11_undo_36 (by decide) ?_
    refine z_irem eX11_undo_38 ⟨by omega, by omega, by omega, by omega⟩ ?_
    rw [hc]
    refine z_past eX11_undo_39 hT hc2 ?_
    refine z_V1vz eX11_undo_40 vX11_107 rfl rfl (Nat.le_of_ble_eq_true rfl) (Nat.le_of_ble_eq_true rfl) ((hD).L0 hT (by decide)) (c_X1_takeAll hT hD (isCo.past hc2) (by omega) (hc ▸ ((p4 (n - 1) (by omega) (by omega)).out (s := zset σ 0 9 (n - 1)) (fun j j0 j1 => zset_o (by omega))).1) (hI (n - 1) (by omega) (by omega))) (fun s40 hs40 => ?_)
    have e0 : s40 0 = zset σ 0 9 (n - 1) 0 := hs40.1 0 (by omega)
    refine z_iconst eX11_undo_43 ?_
    refine z_zreturn eX11_undo_44 rfl (by first | exact Or.inl rfl | exact Or.inr rfl | exact zbi_01 _ | assumption | omega) ?_
    refine zZe (Or.inr ⟨by omega, fun i hi h0 => ?_, fun j j9 => ?_, ?_, hs40.2.2, ?_⟩) (by rw [if_neg (by omega)])
    · rw [hs40.1 i (by omega)]; exact zset_o h0
    · rw [e0]; exact zset_f j9
    · rw [e0]; exact zset_eq
    · rw [hs40.2.1]; exact congrFun (zset_o (by omega)) 10
  · refine z_iconst eX11_undo_7 ?_
    refine z_zreturn eX11_undo_8 rfl (by first | exact Or.inl rfl | exact Or.inr rfl | exact zbi_01 _ | assumption | omega) ?_
    exact zZe (Or.inl ⟨by omega, rfl⟩) (by rw [if_pos (by omega)])
