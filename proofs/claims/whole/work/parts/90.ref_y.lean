/-! Trials and spans. -/
theorem qHourOn_f {M : Int → Int} {j : Int} (hj : j < 0 ∨ 426 ≤ j) : qHourOn M j = M j := by
  unfold qHourOn
  split
  · rw [zput_ne (by omega), zput_ne (by omega), zput_ne (by omega)]
  · rw [zput_ne (by omega)]
theorem qLog_f {M : Int → Int} {k j : Int} (hj : j < 0 ∨ 426 ≤ j) : qLog M k j = M j := by
  unfold qLog
  rw [zput_ne (by omega), zput_ne (by omega), zput_ne (by omega), zput_ne (by omega), zput_ne (by omega), zput_ne (by omega)]
  exact if_neg (by omega)
theorem qPassM_f {M : Int → Int} (h : zOL M) {j : Int} (hj : j < 0 ∨ 426 ≤ j) : qPassM M j = M j := by
  have h1 := qSkyed_OL h
  have h6 := h1.1.1.s 6 rfl (by omega)
  have hP := h1.1.1.P8 (t := qSkyed M 6) ⟨h6.1, by omega⟩
  have e : qSkyed M j = M j := by
    show zput (zput M 12 _) 5 _ j = M j
    rw [zput_ne (by omega), zput_ne (by omega)]
  unfold qPassM
  rw [qHourOn_f hj]
  unfold qCame
  by_cases hc : qComes (qSkyed M) (qSkyed M (114 + qSkyed M 6))
  · have := hc.1
    rw [zif_t hc, qLog_f hj, zput_ne (by omega), e]
  · rw [zif_f hc, e]
theorem qPassN_f {M : Int → Int} (h : zOL M) {n : Int} (hn : 0 ≤ n) {j : Int} (hj : j < 0 ∨ 426 ≤ j) : (qPassN M n).1 j = M j := by
  have : zOL (qPassN M n).1 ∧ (qPassN M n).1 j = M j := by
    unfold qPassN
    exact zfold_P (f := fun _ r => qPassS r) (P := fun _ (r : (Int → Int) × Int × Int) => zOL r.1 ∧ r.1 j = M j) (s := (M, 0, 0)) ⟨h, rfl⟩ (fun _ r _ hr => ⟨qPassM_OL hr.1, (qPassM_f hr.1 hj).trans hr.2⟩) n hn
  exact this.2
def qInSt (M : Int → Int) (v : Int) : Int := zors (fun t => if M (74 + 5 * t + 4) = v then zshl 1 t else 0) (M 4)
/-- what counts from outside -/
def zNz (j : Int) : Prop := j = 0 ∨ j = 3 ∨ j = 6 ∨ j = 8 ∨ j = 12
def zNo (o : Int) : Prop := o = 1 ∨ o = 2 ∨ o = 4 ∨ o = 5
def zScz (σ s : zMem) : Prop := (∀ j, zNz j → s 0 j = σ 0 j) ∧ (∀ o, zNo o → s o = σ o) ∧ zJs s
theorem zScx.z {σ s : zMem} (h : zScx σ s) : zScz σ s := ⟨fun j hj => h.1 j (by unfold zNz at hj; unfold zNs; omega), fun o ho => h.2.1 o (by unfold zNo at ho; omega) (by unfold zNo at ho; omega), h.2.2⟩
theorem zScz.refl {σ : zMem} (h : zJs σ) : zScz σ σ := ⟨fun _ _ => rfl, fun _ _ => rfl, h⟩
theorem zScz.trans {σ s t : zMem} (h : zScz σ s) (h2 : zScz s t) : zScz σ t := ⟨fun j hj => (h2.1 j hj).trans (h.1 j hj), fun o ho => (h2.2.1 o ho).trans (h.2.1 o ho), h2.2.2⟩
theorem zScz.r1 {σ s : zMem} (h : zScz σ s) : s 1 = σ 1 := h.2.1 1 (by unfold zNo; omega)
theorem zScz.row3 {σ : zMem} (h : zJs σ) (A : Int → Int) : zScz σ (zRow σ 3 A) := ⟨fun _ _ => rfl, fun o ho => zRow_o (by unfold zNo at ho; omega), h⟩
theorem zScz.set25 {σ s : zMem} (h : zScz σ s) (d : Int) : zScz σ (zset s 0 25 d) := ⟨fun j hj => by rw [zset_at, if_neg (by unfold zNz at hj; omega)]; exact h.1 j hj, fun o ho => by rw [zset_o (by unfold zNo at ho; omega)]; exact h.2.1 o ho, h.2.2.set (by decide) (fun _ => by unfold zNs; omega)⟩
/-- the row gone on, then as it was -/
theorem zScz.back {σ s S : zMem} (h : zScz σ s) (h2 : zScr s S) (M : Int → Int) : zScz (zM σ M) (zM S M) := by
  refine ⟨fun j hj => ?_, fun o ho => ?_, h2.2.2⟩
  · rw [zM_n, zM_n, h2.1 j (by unfold zNz at hj; unfold zNs; omega)]; exact h.1 j hj
  · by_cases e : o = 1
    · rw [e]; rfl
    · rw [zM_o e, zM_o e, h2.2.1 o (by unfold zNo at ho; omega) (by unfold zNo at ho; omega)]; exact h.2.1 o ho
theorem qcopy_back {A M M' : Int → Int} (hA : ∀ j, 0 ≤ j → j < 426 → A j = M j) (h : ∀ j, j < 0 ∨ 426 ≤ j → M' j = M j) : qcopy A M' 426 = M := by
  funext j
  unfold qcopy
  by_cases hj : 0 ≤ j ∧ j < 426
  · rw [if_pos hj]; exact hA j hj.1 hj.2
  · rw [if_neg hj]; exact h j (by omega)
theorem zOL.seed {M : Int → Int} (h : zOL M) (v : Int) : zOL (zput M 12 v) := h.put (Or.inl (by decide)) (by decide) (fun _ _ => Or.inl (Or.inl rfl))
theorem m_X12_trial {G : zG} {lay : zLay} {σ C0 : zMem} {nx x : Int} {n w : Int} (hR : RefL lay x) (hS : TxS lay C0) (hJ : zJs σ) (hM : zOL (σ 1)) (hn : zin n) (hw : w = 0 ∨ w = 1) : zMM G 70 KX12_trial [zP x, zI n, zI w] lay (rC x σ C0) nx (0, 0) (zX' (some (zI (if 0 ≤ n ∧ n ≤ 60 then (if w = 1 then (qPassN (σ 1) n).2.1 else qInSt (qPassN (σ 1) n).1 1) else 0))) (zScz (zset σ 0 0 (if 0 ≤ n ∧ n ≤ 60 then 0 else 1))) lay C0 nx x) := by
  refine z_met' (L := [zP x, zI n, zI w, zU, zU]) gX12_trial.1 rfl rfl (Nat.le_of_ble_eq_true rfl) rfl ?_
  obtain ⟨n1, n2⟩ := hn
  have hJ1 : ∀ v, zJs (zset σ 0 0 v) := fun v => hJ.set (by decide) (fun _ => Or.inl rfl)
  by_cases hok : 0 ≤ n ∧ n ≤ 60
  · rw [if_pos hok, if_pos hok]
    obtain ⟨τ, hτ, hτ1, hJτ⟩ : ∃ τ, zset σ 0 0 0 = τ ∧ τ 1 = σ 1 ∧ zJs τ := ⟨_, rfl, zset_001, hJ1 0⟩
    rw [hτ]
    have hP := m_X12_passesOn (G := G) (C0 := C0) (nx := nx) (σ := zRow τ 3 (qcopy (τ 1) (τ 3) 426)) (n := n) hR hS hJτ (by rw [zRow_o (by decide), hτ1]; exact hM) hok
    rw [zRow_o (o' := 1) (by decide), hτ1] at hP
    have hO := qPassN_OL hM hok.1
    have hf : ∀ j, j < 0 ∨ 426 ≤ j → (qPassN (σ 1) n).1 j = σ 1 j := fun j hj => qPassN_f hM hok.1 hj
    generalize qPassN (σ 1) n = r at hP hO hf ⊢
    have hm4 := hO.1.1.m4
    have hback : ∀ S, zScr (zM (zset (zRow τ 3 (qcopy (σ 1) (τ 3) 426)) 0 25 r.2.1) r.1) S → zScz τ (zRow S 1 (qcopy (S 3) r.1 426)) := by
      intro S hSc
      have e3 : S 3 = qcopy (σ 1) (τ 3) 426 := by rw [hSc.r3, zM_o (by decide), zset_o (by decide), zRow_e]
      rw [e3, qcopy_back (A := qcopy (σ 1) (τ 3) 426) (M := σ 1) (fun j j0 j1 => by unfold qcopy; rw [if_pos ⟨j0, j1⟩]) hf, zRow_zM]
      have h1 := ((zScz.row3 hJτ (qcopy (σ 1) (τ 3) 426)).set25 r.2.1)
      have h2 : zScr (zset (zRow τ 3 (qcopy (σ 1) (τ 3) 426)) 0 25 r.2.1) (zM S (σ 1)) := by
        have := hSc.m (σ 1)
        rw [zM_M] at this
        have e : zM (zset (zRow τ 3 (qcopy (σ 1) (τ 3) 426)) 0 25 r.2.1) (σ 1) = zset (zRow τ 3 (qcopy (σ 1) (τ 3) 426)) 0 25 r.2.1 := by
          have := zM_self (zset (zRow τ 3 (qcopy (σ 1) (τ 3) 426)) 0 25 r.2.1)
          rwa [zset_o (by decide), zRow_o (by decide), hτ1] at this
        rwa [e] at this
      exact h1.trans h2.x.z
    refine z_al0 eX12_trial_0 hR.ne ?_
    refine z_il1 eX12_trial_1 ?_
    refine z_iconst eX12_trial_2 ?_
    refine z_bipush eX12_trial_3 (by decide) ?_
    refine z_S3 eX12_trial_5 vX12_51 rfl rfl (Nat.le_of_ble_eq_true rfl) (Nat.le_of_ble_eq_true rfl) (m_X12_isIn (by refine ⟨?_, ?_, ?_⟩ <;> first | omega | decide | assumption)) ?_
    refine z_ifb_ne (tgt := 15) eX12_trial_8 rfl (fun h8 => ?_) (fun h8 => absurd hok h8)
    refine z_iconst eX12_trial_15 ?_
    refine z_rp (j := 0) lX12_48 eX12_trial_16 rfl hR rfl rfl ?_
    rw [hτ]
    refine z_al0 eX12_trial_19 hR.ne ?_
    refine z_rg (j := 0) lX12_48 eX12_trial_20 rfl hR rfl rfl ?_
    rw [← hτ, zset_eq, hτ]
    refine z_if_le (tgt := 28) eX12_trial_23 rfl ⟨by omega, by omega⟩ (fun h23 => ?_) (fun h23 => (by exfalso; omega))
    refine z_al0 eX12_trial_28 hR.ne ?_
    refine z_V0v eX12_trial_29 vX12_200 rfl rfl (Nat.le_of_ble_eq_true rfl) (Nat.le_of_ble_eq_true rfl) hR.x (m_X12_putsAside hR) ?_
    refine z_al0 eX12_trial_32 hR.ne ?_
    refine z_il1 eX12_trial_33 ?_
    refine z_V1x eX12_trial_34 vX12_338 rfl rfl (Nat.le_of_ble_eq_true rfl) (Nat.le_of_ble_eq_true rfl) hR.x (by rw [hτ1]; exact hP ) (fun s34 hs34 => ?_)
    refine z_is3 eX12_trial_37 (Nat.ne_of_beq_eq_false rfl) ?_
    refine z_il2 eX12_trial_38 ?_
    refine z_if_eq (tgt := 49) eX12_trial_39 rfl ⟨by omega, by omega⟩ (fun h39 => ?_) (fun h39 => ?_)
    · refine z_al0 eX12_trial_49 hR.ne ?_
      refine z_iconst eX12_trial_50 ?_
      refine z_V1 eX12_trial_51 vX12_450 rfl rfl (Nat.le_of_ble_eq_true rfl) (Nat.le_of_ble_eq_true rfl) hR.x (m_X12_inState hR (by rw [hs34.r1, zM_1]; exact hm4) ⟨by decide, by decide⟩ (fun t t0 t1 => by rw [hs34.r1, zM_1]; have := hO.1.1.V (k := t) ⟨t0, t1⟩; exact ⟨by omega, by omega⟩)) ?_
      try rw [hs34.r1]
      refine z_is4 eX12_trial_54 (Nat.ne_of_beq_eq_false rfl) ?_
      refine z_al0 eX12_trial_56 hR.ne ?_
      refine z_V0v eX12_trial_57 vX12_210 rfl rfl (Nat.le_of_ble_eq_true rfl) (Nat.le_of_ble_eq_true rfl) hR.x (m_X12_comesBack hR) ?_
      try rw [hs34.r1]
      simp only [zM_1]
      refine z_il4 eX12_trial_60 ?_
      refine z_ireturn eX12_trial_62 rfl ?_
      first | (rw [if_pos (by omega)]; exact zXe (hback _ hs34) rfl) | (rw [if_neg (by omega)]; exact zXe (hback _ hs34) rfl) | fail
    · refine z_al0 eX12_trial_42 hR.ne ?_
      refine z_rg (j := 25) lX12_305 eX12_trial_43 rfl hR rfl rfl ?_
      try rw [hs34.n25]
      rw [zM_n, zset_eq]
      refine z_goto eX12_trial_46 (tgt := 54) rfl ?_
      refine z_is4 eX12_trial_54 (Nat.ne_of_beq_eq_false rfl) ?_
      refine z_al0 eX12_trial_56 hR.ne ?_
      refine z_V0v eX12_trial_57 vX12_210 rfl rfl (Nat.le_of_ble_eq_true rfl) (Nat.le_of_ble_eq_true rfl) hR.x (m_X12_comesBack hR) ?_
      try rw [hs34.r1]
      simp only [zM_1]
      refine z_il4 eX12_trial_60 ?_
      refine z_ireturn eX12_trial_62 rfl ?_
      first | (rw [if_pos (by omega)]; exact zXe (hback _ hs34) rfl) | (rw [if_neg (by omega)]; exact zXe (hback _ hs34) rfl) | fail
  · rw [if_neg hok, if_neg hok]
    refine z_al0 eX12_trial_0 hR.ne ?_
    refine z_il1 eX12_trial_1 ?_
    refine z_iconst eX12_trial_2 ?_
    refine z_bipush eX12_trial_3 (by decide) ?_
    refine z_S3 eX12_trial_5 vX12_51 rfl rfl (Nat.le_of_ble_eq_true rfl) (Nat.le_of_ble_eq_true rfl) (m_X12_isIn (by refine ⟨?_, ?_, ?_⟩ <;> first | omega | decide | assumption)) ?_
    refine z_ifb_ne (tgt := 15) eX12_trial_8 rfl (fun h8 => absurd h8 hok) (fun h8 => ?_)
    refine z_iconst eX12_trial_11 ?_
    refine z_goto eX12_trial_12 (tgt := 16) rfl ?_
    refine z_rp (j := 0) lX12_48 eX12_trial_16 rfl hR rfl rfl ?_
    refine z_al0 eX12_trial_19 hR.ne ?_
    refine z_rg (j := 0) lX12_48 eX12_trial_20 rfl hR rfl rfl ?_
    rw [zset_eq]
    refine z_if_le (tgt := 28) eX12_trial_23 rfl ⟨by omega, by omega⟩ (fun h23 => (by exfalso; omega)) (fun h23 => ?_)
    refine z_iconst eX12_trial_26 ?_
    refine z_ireturn eX12_trial_27 rfl ?_
    exact zXe (zScz.refl (hJ1 _)) rfl
noncomputable def qSpanV (M : Int → Int) (s n : Int) : Int := qWorth (qPassN (zput M 12 s) n).1 (qInSt (qPassN (zput M 12 s) n).1 1)
noncomputable def qSpan (M : Int → Int) (n w i : Int) : Int := zfold (fun i r => if r = -1 then qSpanV M (i + 1) n else if w = 1 then qGr r (qSpanV M (i + 1) n) else if r < qSpanV M (i + 1) n then r else qSpanV M (i + 1) n) (-1) i
theorem qSpanV_bd {M : Int → Int} (h : zOL M) (s : Int) {n : Int} (hn : 0 ≤ n) : 0 ≤ qSpanV M s n ∧ qSpanV M s n ≤ 800 := qWorth_bd (qPassN_OL (h.seed s) hn).1 _
theorem qSpan_bd {M : Int → Int} (h : zOL M) {n w i : Int} (hn : 0 ≤ n) (hi : 0 ≤ i) : -1 ≤ qSpan M n w i ∧ qSpan M n w i ≤ 800 := by
  unfold qSpan
  exact zfold_P (f := fun i r => if r = -1 then qSpanV M (i + 1) n else if w = 1 then qGr r (qSpanV M (i + 1) n) else if r < qSpanV M (i + 1) n then r else qSpanV M (i + 1) n) (P := fun _ (r : Int) => -1 ≤ r ∧ r ≤ 800) (s := -1) ⟨by decide, by decide⟩ (fun t r _ hr => by
    have := qSpanV_bd h (t + 1) hn
    unfold qGr
    (repeat' split) <;> omega) i hi
theorem m_X12_span {G : zG} {lay : zLay} {σ C0 : zMem} {nx x : Int} {n w : Int} (hR : RefL lay x) (hS : TxS lay C0) (hJ : zJs σ) (hM : zOL (σ 1)) (hn : zin n) (hw : w = 0 ∨ w = 1) : zMM G 70 KX12_span [zP x, zI n, zI w] lay (rC x σ C0) nx (0, 0) (zX' (some (zI (if 0 ≤ n ∧ n ≤ 60 then qSpan (σ 1) n w 6 else 0))) (zScz (zset σ 0 0 (if 0 ≤ n ∧ n ≤ 60 then 0 else 1))) lay C0 nx x) := by
  refine z_met' (L := [zP x, zI n, zI w, zU, zU, zU, zU]) gX12_span.1 rfl rfl (Nat.le_of_ble_eq_true rfl) rfl ?_
  obtain ⟨n1, n2⟩ := hn
  have hJ1 : ∀ v, zJs (zset σ 0 0 v) := fun v => hJ.set (by decide) (fun _ => Or.inl rfl)
  by_cases hok : 0 ≤ n ∧ n ≤ 60
  · rw [if_pos hok, if_pos hok]
    obtain ⟨τ, hτ, hτ1, hJτ⟩ : ∃ τ, zset σ 0 0 0 = τ ∧ τ 1 = σ 1 ∧ zJs τ := ⟨_, rfl, zset_001, hJ1 0⟩
    rw [hτ]
    have w37 : ∀ i : Int, 0 ≤ i → i ≤ 6 → ∀ (S : zMem) (y5 y6 : zAV), y5.1 ≠ 1 → zScz τ S → (∀ j, 0 ≤ j → j < 426 → S 3 j = σ 1 j) → zW G KX12_span 70 (zX' (some (zI (qSpan (σ 1) n w 6))) (zScz τ) lay C0 nx x) 37 [zP x, zI n, zI w, zI (qSpan (σ 1) n w i), zI (i + 1), y5, y6] [] lay (rC x S C0) nx (0, 0) := by
      refine z_up 6 ?_ ?_
      · intro S y5 y6 hy hSc h3
        refine z_il4 eX12_span_37 ?_
        refine z_bipush eX12_span_39 (by decide) ?_
        refine z_icmp_gt (tgt := 111) eX12_span_41 rfl ⟨⟨by omega, by omega⟩, ⟨by omega, by omega⟩⟩ (fun h41 => ?_) (fun h41 => (by exfalso; omega))
        refine z_il3 eX12_span_111 ?_
        refine z_ireturn eX12_span_112 rfl ?_
        exact zXe hSc rfl
      · intro i i0 i1 ih S y5 y6 hy hSc h3
        have hS1 : S 1 = σ 1 := by rw [hSc.r1, hτ1]
        have hP := m_X12_passesOn (G := G) (C0 := C0) (nx := nx) (σ := zM S (zput (σ 1) 12 (i + 1))) (n := n) hR hS hSc.2.2 (hM.seed _) hok
        rw [zM_1] at hP
        have hO := qPassN_OL (hM.seed (i + 1)) hok.1
        have hf : ∀ j, j < 0 ∨ 426 ≤ j → (qPassN (zput (σ 1) 12 (i + 1)) n).1 j = σ 1 j := fun j hj => by rw [qPassN_f (hM.seed _) hok.1 hj, zput_ne (by omega)]
        have hv : qSpanV (σ 1) (i + 1) n = qWorth (qPassN (zput (σ 1) 12 (i + 1)) n).1 (qInSt (qPassN (zput (σ 1) 12 (i + 1)) n).1 1) := rfl
        have hvb := qSpanV_bd hM (i + 1) hok.1
        have hqb := qSpan_bd hM (w := w) hok.1 i0
        have e : qSpan (σ 1) n w (i + 1) = if qSpan (σ 1) n w i = -1 then qSpanV (σ 1) (i + 1) n else if w = 1 then qGr (qSpan (σ 1) n w i) (qSpanV (σ 1) (i + 1) n) else if qSpan (σ 1) n w i < qSpanV (σ 1) (i + 1) n then qSpan (σ 1) n w i else qSpanV (σ 1) (i + 1) n := by unfold qSpan; rw [zfold_s _ _ i0]
        rw [e] at ih
        generalize qSpan (σ 1) n w i = q at ih hqb ⊢
        rw [hv] at ih hvb
        generalize qPassN (zput (σ 1) 12 (i + 1)) n = r at hP hO hf ih hvb
        have hm4 := hO.1.1.m4
        have hback : ∀ s, zScr (zM (zset (zM S (zput (σ 1) 12 (i + 1))) 0 25 r.2.1) r.1) s → zScz τ (zRow s 1 (qcopy (s 3) r.1 426)) ∧ ∀ j, 0 ≤ j → j < 426 → zRow s 1 (qcopy (s 3) r.1 426) 3 j = σ 1 j := by
          intro s hs
          have e3 : s 3 = S 3 := by rw [hs.r3, zM_o (by decide), zset_o (by decide), zM_o (by decide)]
          rw [e3, qcopy_back (A := S 3) (M := σ 1) h3 hf, zRow_zM]
          refine ⟨?_, fun j j0 j1 => by rw [zM_o (by decide), e3]; exact h3 j j0 j1⟩
          have h2 : zScr (zset S 0 25 r.2.1) (zM s (σ 1)) := by
            have := hs.m (σ 1)
            rw [zM_p, zM_M, zM_M] at this
            have e : zM (zset S 0 25 r.2.1) (σ 1) = zset S 0 25 r.2.1 := by
              have := zM_self (zset S 0 25 r.2.1)
              rwa [zset_o (by decide), hS1] at this
            rwa [e] at this
          exact (hSc.set25 r.2.1).trans h2.x.z
        refine z_il4 eX12_span_37 ?_
        refine z_bipush eX12_span_39 (by decide) ?_
        refine z_icmp_gt (tgt := 111) eX12_span_41 rfl ⟨⟨by omega, by omega⟩, ⟨by omega, by omega⟩⟩ (fun h41 => (by exfalso; omega)) (fun h41 => ?_)
        refine z_al0 eX12_span_44 hR.ne ?_
        refine z_ra lX12_7 eX12_span_45 rfl hR rfl ?_
        try rw [zM_n]
        try rw [hS1]
        refine z_bipush eX12_span_48 (by decide) ?_
        refine z_il4 eX12_span_50 ?_
        refine z_rs eX12_span_52 hR (by decide) rfl rfl ⟨by omega, by omega⟩ ?_
        first | rw [zM_s] | rw [zM_s0] | skip
        rw [hS1]
        refine z_al0 eX12_span_53 hR.ne ?_
        refine z_il1 eX12_span_54 ?_
        refine z_V1x eX12_span_55 vX12_338 rfl rfl (Nat.le_of_ble_eq_true rfl) (Nat.le_of_ble_eq_true rfl) hR.x (hP ) (fun s55 hs55 => ?_)
        try rw [zM_1]
        try rw [hS1]
        refine z_is5 eX12_span_58 (Nat.ne_of_beq_eq_false rfl) ?_
        refine z_al0 eX12_span_60 hR.ne ?_
        refine z_al0 eX12_span_61 hR.ne ?_
        refine z_iconst eX12_span_62 ?_
        refine z_V1 eX12_span_63 vX12_450 rfl rfl (Nat.le_of_ble_eq_true rfl) (Nat.le_of_ble_eq_true rfl) hR.x (m_X12_inState hR (by rw [hs55.r1, zM_1]; exact hm4) ⟨by decide, by decide⟩ (fun t t0 t1 => by rw [hs55.r1, zM_1]; have := hO.1.1.V (k := t) ⟨t0, t1⟩; exact ⟨by omega, by omega⟩)) ?_
        try rw [zM_1]
        try rw [hS1]
        try rw [hs55.r1]
        refine z_V1 eX12_span_66 vX12_370 rfl rfl (Nat.le_of_ble_eq_true rfl) (Nat.le_of_ble_eq_true rfl) hR.x (m_X12_worthOf hR (by rw [hs55.r1, zM_1]; exact hm4)) ?_
        try rw [zM_1]
        try rw [hS1]
        try rw [hs55.r1]
        simp only [zM_1]
        change zW _ _ _ _ _ _ (zI (qWorth r.1 (qInSt r.1 1)) :: _) _ _ _ _
        refine z_is6 eX12_span_69 (Nat.ne_of_beq_eq_false rfl) ?_
        refine z_al0 eX12_span_71 hR.ne ?_
        refine z_V0v eX12_span_72 vX12_210 rfl rfl (Nat.le_of_ble_eq_true rfl) (Nat.le_of_ble_eq_true rfl) hR.x (m_X12_comesBack hR) ?_
        try rw [zM_1]
        try rw [hS1]
        try rw [hs55.r1]
        simp only [zM_1]
        refine z_il3 eX12_span_75 ?_
        refine z_iconst eX12_span_76 ?_
        refine z_icmp_ne (tgt := 85) eX12_span_77 rfl ⟨⟨by omega, by omega⟩, ⟨by omega, by omega⟩⟩ (fun h77 => ?_) (fun h77 => ?_)
        · refine z_il2 eX12_span_85 ?_
          refine z_if_eq (tgt := 98) eX12_span_86 rfl ⟨by omega, by omega⟩ (fun h86 => ?_) (fun h86 => ?_)
          · refine z_il3 eX12_span_98 ?_
            refine z_il6 eX12_span_99 ?_
            refine z_S2 eX12_span_101 vX12_271 rfl rfl (Nat.le_of_ble_eq_true rfl) (Nat.le_of_ble_eq_true rfl) (m_X12_lesser ⟨⟨by omega, by omega⟩, ⟨by omega, by omega⟩⟩) ?_
            try rw [zM_1]
            try rw [hS1]
            refine z_is3 eX12_span_104 (Nat.ne_of_beq_eq_false rfl) ?_
            refine z_ii4 eX12_span_105 (Nat.ne_of_beq_eq_false rfl) ?_
            refine z_goto eX12_span_108 (tgt := 37) rfl ?_
            have hb := hback _ hs55
            rw [show i + 1 + 1 = (i + 1) + 1 from rfl]
            first | (rw [if_pos (by omega)] at ih; exact ih _ _ _ (Nat.ne_of_beq_eq_false rfl) hb.1 hb.2) | (rw [if_neg (by omega), if_pos (by omega)] at ih; exact ih _ _ _ (Nat.ne_of_beq_eq_false rfl) hb.1 hb.2) | (rw [if_neg (by omega), if_neg (by omega)] at ih; exact ih _ _ _ (Nat.ne_of_beq_eq_false rfl) hb.1 hb.2) | fail
          · refine z_il3 eX12_span_89 ?_
            refine z_il6 eX12_span_90 ?_
            refine z_S2 eX12_span_92 vX12_274 rfl rfl (Nat.le_of_ble_eq_true rfl) (Nat.le_of_ble_eq_true rfl) (m_X12_greater ⟨⟨by omega, by omega⟩, ⟨by omega, by omega⟩⟩) ?_
            try rw [zM_1]
            try rw [hS1]
            refine z_goto eX12_span_95 (tgt := 104) rfl ?_
            refine z_is3 eX12_span_104 (Nat.ne_of_beq_eq_false rfl) ?_
            refine z_ii4 eX12_span_105 (Nat.ne_of_beq_eq_false rfl) ?_
            refine z_goto eX12_span_108 (tgt := 37) rfl ?_
            have hb := hback _ hs55
            rw [show i + 1 + 1 = (i + 1) + 1 from rfl]
            first | (rw [if_pos (by omega)] at ih; exact ih _ _ _ (Nat.ne_of_beq_eq_false rfl) hb.1 hb.2) | (rw [if_neg (by omega), if_pos (by omega)] at ih; exact ih _ _ _ (Nat.ne_of_beq_eq_false rfl) hb.1 hb.2) | (rw [if_neg (by omega), if_neg (by omega)] at ih; exact ih _ _ _ (Nat.ne_of_beq_eq_false rfl) hb.1 hb.2) | fail
        · refine z_il6 eX12_span_80 ?_
          refine z_goto eX12_span_82 (tgt := 104) rfl ?_
          refine z_is3 eX12_span_104 (Nat.ne_of_beq_eq_false rfl) ?_
          refine z_ii4 eX12_span_105 (Nat.ne_of_beq_eq_false rfl) ?_
          refine z_goto eX12_span_108 (tgt := 37) rfl ?_
          have hb := hback _ hs55
          rw [show i + 1 + 1 = (i + 1) + 1 from rfl]
          first | (rw [if_pos (by omega)] at ih; exact ih _ _ _ (Nat.ne_of_beq_eq_false rfl) hb.1 hb.2) | (rw [if_neg (by omega), if_pos (by omega)] at ih; exact ih _ _ _ (Nat.ne_of_beq_eq_false rfl) hb.1 hb.2) | (rw [if_neg (by omega), if_neg (by omega)] at ih; exact ih _ _ _ (Nat.ne_of_beq_eq_false rfl) hb.1 hb.2) | fail
    refine z_al0 eX12_span_0 hR.ne ?_
    refine z_il1 eX12_span_1 ?_
    refine z_iconst eX12_span_2 ?_
    refine z_bipush eX12_span_3 (by decide) ?_
    refine z_S3 eX12_span_5 vX12_51 rfl rfl (Nat.le_of_ble_eq_true rfl) (Nat.le_of_ble_eq_true rfl) (m_X12_isIn (by refine ⟨?_, ?_, ?_⟩ <;> first | omega | decide | assumption)) ?_
    refine z_ifb_ne (tgt := 15) eX12_span_8 rfl (fun h8 => ?_) (fun h8 => absurd hok h8)
    refine z_iconst eX12_span_15 ?_
    refine z_rp (j := 0) lX12_48 eX12_span_16 rfl hR rfl rfl ?_
    rw [hτ]
    refine z_al0 eX12_span_19 hR.ne ?_
    refine z_rg (j := 0) lX12_48 eX12_span_20 rfl hR rfl rfl ?_
    rw [← hτ, zset_eq, hτ]
    refine z_if_le (tgt := 28) eX12_span_23 rfl ⟨by omega, by omega⟩ (fun h23 => ?_) (fun h23 => (by exfalso; omega))
    refine z_al0 eX12_span_28 hR.ne ?_
    refine z_V0v eX12_span_29 vX12_200 rfl rfl (Nat.le_of_ble_eq_true rfl) (Nat.le_of_ble_eq_true rfl) hR.x (m_X12_putsAside hR) ?_
    rw [hτ1]
    refine z_iconst eX12_span_32 ?_
    refine z_is3 eX12_span_33 (Nat.ne_of_beq_eq_false rfl) ?_
    refine z_iconst eX12_span_34 ?_
    refine z_is4 eX12_span_35 (Nat.ne_of_beq_eq_false rfl) ?_
    exact w37 0 (by decide) (by decide) _ _ _ (Nat.ne_of_beq_eq_false rfl) (zScz.row3 hJτ _) (fun j j0 j1 => by rw [zRow_e]; unfold qcopy; rw [if_pos ⟨j0, j1⟩])
  · rw [if_neg hok, if_neg hok]
    refine z_al0 eX12_span_0 hR.ne ?_
    refine z_il1 eX12_span_1 ?_
    refine z_iconst eX12_span_2 ?_
    refine z_bipush eX12_span_3 (by decide) ?_
    refine z_S3 eX12_span_5 vX12_51 rfl rfl (Nat.le_of_ble_eq_true rfl) (Nat.le_of_ble_eq_true rfl) (m_X12_isIn (by refine ⟨?_, ?_, ?_⟩ <;> first | omega | decide | assumption)) ?_
    refine z_ifb_ne (tgt := 15) eX12_span_8 rfl (fun h8 => absurd h8 hok) (fun h8 => ?_)
    refine z_iconst eX12_span_11 ?_
    refine z_goto eX12_span_12 (tgt := 16) rfl ?_
    refine z_rp (j := 0) lX12_48 eX12_span_16 rfl hR rfl rfl ?_
    refine z_al0 eX12_span_19 hR.ne ?_
    refine z_rg (j := 0) lX12_48 eX12_span_20 rfl hR rfl rfl ?_
    rw [zset_eq]
    refine z_if_le (tgt := 28) eX12_span_23 rfl ⟨by omega, by omega⟩ (fun h23 => (by exfalso; omega)) (fun h23 => ?_)
    refine z_iconst eX12_span_26 ?_
    refine z_ireturn eX12_span_27 rfl ?_
    exact zXe (zScz.refl (hJ1 _)) rfl
