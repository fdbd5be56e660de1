/-! The most from a set on; the first best. -/
noncomputable def qPapC (M : Int → Int) (h u n : Int) : Int := zfold (fun i cur => if zbit (qInSt M 0) i = 1 ∧ ¬ zbit u i = 1 then qGr cur (qBring M i h + qTab M (h + 1) (zor u (zshl 1 i))) else cur) (qTab M (h + 1) u) n
theorem qPapC_q {M : Int → Int} (hI : zInv M) (h u : Int) : ∀ n : Nat, n ≤ 8 → qPapC M h u n = zfold (qPapK M h (qTab M (h + 1)) u) (qTab M (h + 1) u) (if (n : Int) ≤ M 4 then n else M 4) := by
  have hm4 := hI.m4
  intro n
  induction n with
  | zero => intro _; rw [if_pos (by omega)]; rfl
  | succ n ih =>
    intro hn
    rw [show ((n + 1 : Nat) : Int) = (n : Int) + 1 by omega, show qPapC M h u ((n : Int) + 1) = (if zbit (qInSt M 0) n = 1 ∧ ¬ zbit u n = 1 then qGr (qPapC M h u n) (qBring M n h + qTab M (h + 1) (zor u (zshl 1 n))) else qPapC M h u n) from zfold_s _ _ (by omega), ih (by omega)]
    have hw := qInSt_B hI 0 (i := n) ⟨by omega, by omega⟩
    by_cases e : (n : Int) < M 4
    · rw [if_pos (show (n : Int) ≤ M 4 by omega), if_pos (show (n : Int) + 1 ≤ M 4 by omega), zfold_s _ _ (by omega)]
      unfold qPapK
      by_cases e2 : M (74 + 5 * (n : Int) + 4) = 0 ∧ ¬ zbit u n = 1
      · rw [if_pos e2, if_pos ⟨hw.mpr ⟨e, e2.1⟩, e2.2⟩]
      · rw [if_neg e2, if_neg (fun z => e2 ⟨(hw.mp z.1).2, z.2⟩)]
    · rw [if_neg (fun z => e (hw.mp z.1).1), if_neg (show ¬ (n : Int) + 1 ≤ M 4 by omega)]
      by_cases e2 : (n : Int) ≤ M 4
      · rw [if_pos e2, show (n : Int) = M 4 by omega]
      · rw [if_neg e2]
theorem qPapC_8 {M : Int → Int} (hI : zInv M) {h : Int} (h12 : h < 12) (u : Int) : qPapC M h u 8 = qTab M h u := by
  have hm4 := hI.m4
  have := qPapC_q hI h u 8 (by decide)
  rw [show ((8 : Nat) : Int) = 8 from rfl] at this
  rw [this, qTab_s h12]
  by_cases e : (8 : Int) ≤ M 4
  · rw [if_pos e, show M 4 = 8 by omega]
  · rw [if_neg e]
theorem qPapC_bd {M : Int → Int} (hM : zOK M) {h : Int} (h1 : M 6 ≤ h) (h12 : h < 12) (u : Int) {n : Int} (hn : 0 ≤ n ∧ n ≤ 8) : 0 ≤ qPapC M h u n ∧ qPapC M h u n ≤ 65000000 := by
  have hm4 := hM.1.m4
  have e := qPapC_q hM.1 h u n.toNat (by omega)
  rw [Int.toNat_of_nonneg hn.1] at e
  rw [e]
  have := qPapF_bd hM h1 (T := qTab M (h + 1)) (c := 60000000) (fun set => qTab_bd hM (by omega) (by omega) set) u (n := if n ≤ M 4 then n else M 4) (by split <;> omega)
  omega
theorem qGr_max (a c : Int) : (if a < c then c else a) = qGr a c := by unfold qGr; (repeat' split) <;> omega
theorem c_X7_mostFrom {G : zG} {lay : zLay} {σ C0 : zMem} {nx x : Int} (hT : TopL lay x) {k u : Int} {M : Int → Int} (hR : PlR σ M) (hP : PlM σ M (k + 1)) (hM : zOK M) (hk : 0 ≤ k ∧ k < 12 - M 6) (hv : qVal M k u) : zMM G 3 KX7_mostFrom [zP (x + 310), zI k, zI u] lay (tC x σ C0) nx (0, 0) (zR (some (zI (qTab M (M 6 + k) u))) lay (tC x (σ) (C0)) nx) := by
  refine z_met' (L := [zP (x + 310), zI k, zI u, zU, zU]) gX7_mostFrom.1 rfl rfl (Nat.le_of_ble_eq_true rfl) rfl ?_
  have hA := PlAt
  have hx := hT.1
  have hne : x + 310 ≠ -1 := by omega
  have hI := hM.1
  have hm4 := hI.m4
  have h6 := hI.s 6 rfl (by omega)
  have hv1 := hv.1
  rw [← qPapC_8 hI (by omega) u]
  have hl : ∀ t : Int, 0 ≤ t → t ≤ 8 → zW G KX7_mostFrom 3 (zR (some (zI (qPapC M (M 6 + k) u 8))) lay (tC x σ C0) nx) 18 [zP (x + 310), zI k, zI u, zI (qPapC M (M 6 + k) u t), zI t] [] lay (tC x σ C0) nx (0, 0) := by
    refine z_up 8 ?_ ?_
    · skip
      refine z_il4 eX7_mostFrom_18 ?_
      refine z_bipush eX7_mostFrom_20 (by decide) ?_
      refine z_icmp_ge (tgt := 54) eX7_mostFrom_22 rfl ⟨⟨by omega, by omega⟩, ⟨by omega, by omega⟩⟩ (fun h22 => ?_) (fun h22 => (by exfalso; omega))
      refine z_il3 eX7_mostFrom_54 ?_
      refine z_ireturn eX7_mostFrom_55 rfl ?_
      first | exact ⟨rfl, rfl, rfl, rfl⟩ | exact zRb1 (by omega) | exact zRb0 (by omega) | exact zRe (by omega)
    · intro t t0 t1 ih
      have hw := qInSt_B hI 0 (i := t) ⟨t0, by omega⟩
      have hb := qPapC_bd hM (h := M 6 + k) (by omega) (by omega) u (n := t) ⟨t0, by omega⟩
      have hbt := qTab_bd hM (h := M 6 + k + 1) (by omega) (by omega) (zor u (zshl 1 t))
      have hbr := qBring_bd hM (k := t) (h := M 6 + k) ⟨t0, t1⟩ (by omega)
      rw [show qPapC M (M 6 + k) u (t + 1) = (if zbit (qInSt M 0) t = 1 ∧ ¬ zbit u t = 1 then qGr (qPapC M (M 6 + k) u t) (qBring M t (M 6 + k) + qTab M (M 6 + k + 1) (zor u (zshl 1 t))) else qPapC M (M 6 + k) u t) from zfold_s _ _ t0] at ih
      refine z_il4 eX7_mostFrom_18 ?_
      refine z_bipush eX7_mostFrom_20 (by decide) ?_
      refine z_icmp_ge (tgt := 54) eX7_mostFrom_22 rfl ⟨⟨by omega, by omega⟩, ⟨by omega, by omega⟩⟩ (fun h22 => (by exfalso; omega)) (fun h22 => ?_)
      refine z_al0 eX7_mostFrom_25 hne ?_
      refine z_il4 eX7_mostFrom_26 ?_
      refine z_il2 eX7_mostFrom_28 ?_
      refine z_V2 eX7_mostFrom_29 vX7_79 rfl rfl (Nat.le_of_ble_eq_true rfl) (Nat.le_of_ble_eq_true rfl) ((hA).L0 hT (by decide)) (c_X7_isFree hT hR ⟨by omega, by omega⟩) ?_
      refine z_ifb_eq (tgt := 48) eX7_mostFrom_32 rfl (fun h32 => ?_) (fun h32 => ?_)
      · refine z_ii4 eX7_mostFrom_48 (Nat.ne_of_beq_eq_false rfl) ?_
        refine z_goto eX7_mostFrom_51 (tgt := 18) rfl ?_
        first | (rw [if_pos h32] at ih; exact ih) | (rw [if_neg h32] at ih; exact ih) | fail
      · refine z_il3 eX7_mostFrom_35 ?_
        refine z_al0 eX7_mostFrom_36 hne ?_
        refine z_il1 eX7_mostFrom_37 ?_
        refine z_il2 eX7_mostFrom_38 ?_
        refine z_il4 eX7_mostFrom_39 ?_
        refine z_V3 eX7_mostFrom_41 vX7_83 rfl rfl (Nat.le_of_ble_eq_true rfl) (Nat.le_of_ble_eq_true rfl) ((hA).L0 hT (by decide)) (c_X7_withMotion hT hR hP hI hk ⟨t0, (hw.mp h32.1).1⟩ (hv.set hI ⟨t0, (hw.mp h32.1).1⟩ (hw.mp h32.1).2)) ?_
        refine z_max eX7_mostFrom_44 vX7_87 rfl (Nat.le_of_ble_eq_true rfl) (Nat.le_of_ble_eq_true rfl) ⟨⟨by omega, by omega⟩, ⟨by omega, by omega⟩⟩ ?_
        rw [qGr_max]
        refine z_is3 eX7_mostFrom_47 (Nat.ne_of_beq_eq_false rfl) ?_
        refine z_ii4 eX7_mostFrom_48 (Nat.ne_of_beq_eq_false rfl) ?_
        refine z_goto eX7_mostFrom_51 (tgt := 18) rfl ?_
        first | (rw [if_pos h32] at ih; exact ih) | (rw [if_neg h32] at ih; exact ih) | fail
  refine z_al0 eX7_mostFrom_0 hne ?_
  first | refine z_ta0 lX7_9 eX7_mostFrom_1 rfl hT hA (by decide) rfl rfl ?_ | refine z_ta lX7_9 eX7_mostFrom_1 rfl hT hA ⟨by decide, by decide⟩ rfl rfl ?_
  refine z_il1 eX7_mostFrom_4 ?_
  refine z_iconst eX7_mostFrom_5 ?_
  refine z_iadd eX7_mostFrom_6 ?_
  refine z_sipush eX7_mostFrom_7 (by decide) ?_
  refine z_imul eX7_mostFrom_10 ?_
  refine z_il2 eX7_mostFrom_11 ?_
  refine z_iadd eX7_mostFrom_12 ?_
  refine z_tl eX7_mostFrom_13 hT hA ⟨by decide, by decide⟩ rfl rfl ⟨by omega, by omega⟩ ?_
  rw [show σ (310 + 1) ((k + 1) * 256 + u) = σ 311 ((k + 1) * 256 + u) from rfl, hP (k + 1) u (by omega) (by omega) hv.up, show M 6 + (k + 1) = M 6 + k + 1 by omega]
  refine z_is3 eX7_mostFrom_14 (Nat.ne_of_beq_eq_false rfl) ?_
  refine z_iconst eX7_mostFrom_15 ?_
  refine z_is4 eX7_mostFrom_16 (Nat.ne_of_beq_eq_false rfl) ?_
  exact hl 0 (by decide) (by decide)
theorem qFrom_eq {p : Int → Prop} {n i : Int} (h0 : 0 ≤ i) (h1 : i < n) (hp : p i) (hn : ∀ j, 0 ≤ j → j < i → ¬ p j) : qFrom p 0 n = i := by
  rcases qFrom_sp (p := p) (k := 0) (n := n) (by omega) with ⟨a, c⟩ | ⟨a, c, d, e⟩
  · exact absurd hp (c i h0 h1)
  · by_cases e1 : qFrom p 0 n < i
    · exact absurd d (hn _ a e1)
    · by_cases e2 : i < qFrom p 0 n
      · exact absurd hp (e i h0 e2)
      · omega
theorem qFrom_no {p : Int → Prop} {n : Int} (h0 : 0 ≤ n) (hn : ∀ j, 0 ≤ j → j < n → ¬ p j) : qFrom p 0 n = -1 := by
  rcases qFrom_sp (p := p) (k := 0) (n := n) h0 with ⟨a, c⟩ | ⟨a, c, d, e⟩
  · exact a
  · exact absurd d (hn _ a c)
theorem c_X7_firstBest {G : zG} {lay : zLay} {σ C0 : zMem} {nx x : Int} (hT : TopL lay x) {k u : Int} {M : Int → Int} (hR : PlR σ M) (hP : PlM σ M 0) (hM : zOK M) (hk : 0 ≤ k ∧ k < 12 - M 6) (hv : qVal M k u) : zMM G 3 KX7_firstBest [zP (x + 310), zI k, zI u] lay (tC x σ C0) nx (0, 0) (zR (some (zI (qBestH M (M 6 + k) u).2)) lay (tC x (σ) (C0)) nx) := by
  refine z_met' (L := [zP (x + 310), zI k, zI u, zU, zU]) gX7_firstBest.1 rfl rfl (Nat.le_of_ble_eq_true rfl) rfl ?_
  have hA := PlAt
  have hx := hT.1
  have hne : x + 310 ≠ -1 := by omega
  have hI := hM.1
  have hm4 := hI.m4
  have h6 := hI.s 6 rfl (by omega)
  have hv1 := hv.1
  have hP1 : PlM σ M (k + 1) := fun a c d e f => hP a c (by omega) e f
  have hbt := qTab_bd hM (h := M 6 + k) (by omega) (by omega) u
  have hbt2 := qTab_bd hM (h := M 6 + k + 1) (by omega) (by omega) u
  have hl : ¬ qTab M (M 6 + k + 1) u = qTab M (M 6 + k) u → ∀ t : Int, 0 ≤ t → t ≤ 8 → (∀ j, 0 ≤ j → j < t → j < M 4 → ¬ qBestP M (M 6 + k) u j) → zW G KX7_firstBest 3 (zR (some (zI (qBestH M (M 6 + k) u).2)) lay (tC x σ C0) nx) 36 [zP (x + 310), zI k, zI u, zI (qTab M (M 6 + k) u), zI t] [] lay (tC x σ C0) nx (0, 0) := by
    intro hne2
    have e2 : (qBestH M (M 6 + k) u).2 = qFrom (qBestP M (M 6 + k) u) 0 (M 4) := by unfold qBestH; rw [if_neg hne2]
    refine z_up 8 ?_ ?_
    · intro hno
      refine z_il4 eX7_firstBest_36 ?_
      refine z_bipush eX7_firstBest_38 (by decide) ?_
      refine z_icmp_ge (tgt := 74) eX7_firstBest_40 rfl ⟨⟨by omega, by omega⟩, ⟨by omega, by omega⟩⟩ (fun h40 => ?_) (fun h40 => (by exfalso; omega))
      refine z_iconst eX7_firstBest_74 ?_
      refine z_ireturn eX7_firstBest_75 rfl ?_
      rw [e2, qFrom_no hm4.1 (fun j j0 j1 => hno j j0 (by omega) j1)]; exact ⟨rfl, rfl, rfl, rfl⟩
    · intro t t0 t1 ih hno
      have hw := qInSt_B hI 0 (i := t) ⟨t0, by omega⟩
      have hbr := qBring_bd hM (k := t) (h := M 6 + k) ⟨t0, t1⟩ (by omega)
      have hbq := qTab_bd hM (h := M 6 + k + 1) (by omega) (by omega) (zor u (zshl 1 t))
      have hnx : (t < M 4 → ¬ qBestP M (M 6 + k) u t) → ∀ j, 0 ≤ j → j < t + 1 → j < M 4 → ¬ qBestP M (M 6 + k) u j := by
        intro z j j0 j1 j2
        by_cases e : j = t
        · rw [e]; exact z (by omega)
        · exact hno j j0 (by omega) j2
      refine z_il4 eX7_firstBest_36 ?_
      refine z_bipush eX7_firstBest_38 (by decide) ?_
      refine z_icmp_ge (tgt := 74) eX7_firstBest_40 rfl ⟨⟨by omega, by omega⟩, ⟨by omega, by omega⟩⟩ (fun h40 => (by exfalso; omega)) (fun h40 => ?_)
      refine z_al0 eX7_firstBest_43 hne ?_
      refine z_il4 eX7_firstBest_44 ?_
      refine z_il2 eX7_firstBest_46 ?_
      refine z_V2 eX7_firstBest_47 vX7_79 rfl rfl (Nat.le_of_ble_eq_true rfl) (Nat.le_of_ble_eq_true rfl) ((hA).L0 hT (by decide)) (c_X7_isFree hT hR ⟨by omega, by omega⟩) ?_
      refine z_ifb_eq (tgt := 68) eX7_firstBest_50 rfl (fun h50 => ?_) (fun h50 => ?_)
      · refine z_ii4 eX7_firstBest_68 (Nat.ne_of_beq_eq_false rfl) ?_
        refine z_goto eX7_firstBest_71 (tgt := 36) rfl ?_
        first | exact ih (hnx (fun z q => h62 q.2.2)) | exact ih (hnx (fun z q => h50 ⟨hw.mpr ⟨z, q.1⟩, q.2.1⟩)) | fail
      · refine z_al0 eX7_firstBest_53 hne ?_
        refine z_il1 eX7_firstBest_54 ?_
        refine z_il2 eX7_firstBest_55 ?_
        refine z_il4 eX7_firstBest_56 ?_
        refine z_V3 eX7_firstBest_58 vX7_83 rfl rfl (Nat.le_of_ble_eq_true rfl) (Nat.le_of_ble_eq_true rfl) ((hA).L0 hT (by decide)) (c_X7_withMotion hT hR hP1 hI hk ⟨t0, (hw.mp h50.1).1⟩ (hv.set hI ⟨t0, (hw.mp h50.1).1⟩ (hw.mp h50.1).2)) ?_
        refine z_il3 eX7_firstBest_61 ?_
        refine z_icmp_ne (tgt := 68) eX7_firstBest_62 rfl ⟨⟨by omega, by omega⟩, ⟨by omega, by omega⟩⟩ (fun h62 => ?_) (fun h62 => ?_)
        · refine z_ii4 eX7_firstBest_68 (Nat.ne_of_beq_eq_false rfl) ?_
          refine z_goto eX7_firstBest_71 (tgt := 36) rfl ?_
          first | exact ih (hnx (fun z q => h62 q.2.2)) | exact ih (hnx (fun z q => h50 ⟨hw.mpr ⟨z, q.1⟩, q.2.1⟩)) | fail
        · refine z_il4 eX7_firstBest_65 ?_
          refine z_ireturn eX7_firstBest_67 rfl ?_
          rw [e2, qFrom_eq t0 (hw.mp h50.1).1 ⟨(hw.mp h50.1).2, h50.2, by omega⟩ (fun j j0 j1 => hno j j0 j1 (by have := (hw.mp h50.1).1; omega))]; exact ⟨rfl, rfl, rfl, rfl⟩
  refine z_al0 eX7_firstBest_0 hne ?_
  first | refine z_ta0 lX7_9 eX7_firstBest_1 rfl hT hA (by decide) rfl rfl ?_ | refine z_ta lX7_9 eX7_firstBest_1 rfl hT hA ⟨by decide, by decide⟩ rfl rfl ?_
  refine z_il1 eX7_firstBest_4 ?_
  refine z_sipush eX7_firstBest_5 (by decide) ?_
  refine z_imul eX7_firstBest_8 ?_
  refine z_il2 eX7_firstBest_9 ?_
  refine z_iadd eX7_firstBest_10 ?_
  refine z_tl eX7_firstBest_11 hT hA ⟨by decide, by decide⟩ rfl rfl ⟨by omega, by omega⟩ ?_
  rw [show σ (310 + 1) (k * 256 + u) = σ 311 (k * 256 + u) from rfl, hP k u (by omega) (by omega) hv]
  refine z_is3 eX7_firstBest_12 (Nat.ne_of_beq_eq_false rfl) ?_
  refine z_al0 eX7_firstBest_13 hne ?_
  first | refine z_ta0 lX7_9 eX7_firstBest_14 rfl hT hA (by decide) rfl rfl ?_ | refine z_ta lX7_9 eX7_firstBest_14 rfl hT hA ⟨by decide, by decide⟩ rfl rfl ?_
  refine z_il1 eX7_firstBest_17 ?_
  refine z_iconst eX7_firstBest_18 ?_
  refine z_iadd eX7_firstBest_19 ?_
  refine z_sipush eX7_firstBest_20 (by decide) ?_
  refine z_imul eX7_firstBest_23 ?_
  refine z_il2 eX7_firstBest_24 ?_
  refine z_iadd eX7_firstBest_25 ?_
  refine z_tl eX7_firstBest_26 hT hA ⟨by decide, by decide⟩ rfl rfl ⟨by omega, by omega⟩ ?_
  rw [show σ (310 + 1) ((k + 1) * 256 + u) = σ 311 ((k + 1) * 256 + u) from rfl, hP (k + 1) u (by omega) (by omega) hv.up, show M 6 + (k + 1) = M 6 + k + 1 by omega]
  refine z_il3 eX7_firstBest_27 ?_
  refine z_icmp_ne (tgt := 33) eX7_firstBest_28 rfl ⟨⟨by omega, by omega⟩, ⟨by omega, by omega⟩⟩ (fun h28 => ?_) (fun h28 => ?_)
  · refine z_iconst eX7_firstBest_33 ?_
    refine z_is4 eX7_firstBest_34 (Nat.ne_of_beq_eq_false rfl) ?_
    exact hl (by omega) 0 (by decide) (by decide) (fun j j0 j1 => by omega)
  · refine z_iconst eX7_firstBest_31 ?_
    refine z_ireturn eX7_firstBest_32 rfl ?_
    unfold qBestH; rw [if_pos (by omega)]; exact ⟨rfl, rfl, rfl, rfl⟩
theorem qBestN_s (M : Int → Int) {n : Int} (hn : 0 ≤ n) : qBestN M (n + 1) = qBestH M (M 6 + n) (qBestN M n).1 := zfold_s _ _ hn
theorem qBestN_val {M : Int → Int} (hM : zOK M) : ∀ n : Nat, (n : Int) ≤ 12 - M 6 → qVal M n (qBestN M n).1 := by
  have hI := hM.1
  have hm4 := hI.m4
  intro n
  induction n with
  | zero =>
    intro _
    show qVal M 0 0
    refine ⟨⟨by decide, by decide⟩, ?_, ?_⟩
    · show zand 0 _ = 0
      rw [zand_0]
      intro i i0 i1 h
      rw [zbit_B 0 i0 i1, zB_0] at h
      cases h
    · show qbits 0 ≤ 0
      decide
  | succ n ih =>
    intro hn
    have h1 := ih (by omega)
    rw [show ((n + 1 : Nat) : Int) = (n : Int) + 1 by omega, qBestN_s M (by omega)]
    unfold qBestH
    by_cases e : qTab M (M 6 + n + 1) (qBestN M n).1 = qTab M (M 6 + n) (qBestN M n).1
    · rw [if_pos e]; exact h1.up
    · rw [if_neg e]
      have hf := qFound hM (h := M 6 + (n : Int)) (by omega) e
      rcases qFrom_sp (p := qBestP M (M 6 + n) (qBestN M n).1) (k := 0) (n := M 4) hm4.1 with ⟨a, c⟩ | ⟨a, c, d, f⟩
      · omega
      · exact h1.set hI ⟨a, c⟩ d.1
theorem c_X7_motionAt {G : zG} {lay : zLay} {σ C0 : zMem} {nx x : Int} (hT : TopL lay x) {a : Int} {M : Int → Int} (hR : PlR σ M) (hP : PlM σ M 0) (hM : zOK M) (ha : zin a) : zMM G 4 KX7_motionAt [zP (x + 310), zI a] lay (tC x σ C0) nx (0, 0) (zR (some (zI (if 0 ≤ a ∧ a < 12 - M 6 then (qBestN M (a + 1)).2 else -1))) lay (tC x (σ) (C0)) nx) := by
  refine z_met' (L := [zP (x + 310), zI a, zU, zU, zU]) gX7_motionAt.1 rfl rfl (Nat.le_of_ble_eq_true rfl) rfl ?_
  have hA := PlAt
  have hx := hT.1
  have hne : x + 310 ≠ -1 := by omega
  have hI := hM.1
  have hm4 := hI.m4
  have h6 := hI.s 6 rfl (by omega)
  unfold zin at ha
  have hl : ∀ t : Int, 0 ≤ t → t ≤ 12 - M 6 → (a < 0 ∨ t ≤ a) → ∀ y4 : zAV, zW G KX7_motionAt 4 (zR (some (zI (if 0 ≤ a ∧ a < 12 - M 6 then (qBestN M (a + 1)).2 else -1))) lay (tC x σ C0) nx) 4 [zP (x + 310), zI a, zI (qBestN M t).1, zI t, y4] [] lay (tC x σ C0) nx (0, 0) := by
    refine z_up (12 - M 6) ?_ ?_
    · intro hat y4
      refine z_il3 eX7_motionAt_4 ?_
      refine z_al0 eX7_motionAt_5 hne ?_
      first | refine z_tg0 (j := 3) lX7_43 eX7_motionAt_6 rfl hT hA (by decide) rfl rfl rfl ?_ | refine z_tg (j := 3) lX7_43 eX7_motionAt_6 rfl hT hA ⟨by decide, by decide⟩ rfl rfl rfl ?_
      rw [hR.hl]
      refine z_icmp_ge (tgt := 51) eX7_motionAt_9 rfl ⟨⟨by omega, by omega⟩, ⟨by omega, by omega⟩⟩ (fun h9 => ?_) (fun h9 => (by exfalso; omega))
      refine z_iconst eX7_motionAt_51 ?_
      refine z_ireturn eX7_motionAt_52 rfl ?_
      rw [if_neg (by omega)]; exact ⟨rfl, rfl, rfl, rfl⟩
    · intro t t0 t1 ih hat y4
      have hv := qBestN_val hM t.toNat (by omega)
      rw [Int.toNat_of_nonneg t0] at hv
      have hs := qBestN_s M t0
      have hfb : (qBestH M (M 6 + t) (qBestN M t).1).2 = -1 ∧ (qBestN M (t + 1)).1 = (qBestN M t).1 ∨ (0 ≤ (qBestH M (M 6 + t) (qBestN M t).1).2 ∧ (qBestH M (M 6 + t) (qBestN M t).1).2 < 8) ∧ (qBestN M (t + 1)).1 = zor (qBestN M t).1 (zshl 1 (qBestH M (M 6 + t) (qBestN M t).1).2) := by
        rw [hs]
        unfold qBestH
        by_cases e : qTab M (M 6 + t + 1) (qBestN M t).1 = qTab M (M 6 + t) (qBestN M t).1
        · rw [if_pos e]; exact Or.inl ⟨rfl, rfl⟩
        · rw [if_neg e]; exact Or.inr ⟨qFound hM (by omega) e, rfl⟩
      rw [← hs] at hfb
      have hq0 : zin (qBestN M t).1 := ⟨by have := hv.1; omega, by have := hv.1; omega⟩
      refine z_il3 eX7_motionAt_4 ?_
      refine z_al0 eX7_motionAt_5 hne ?_
      first | refine z_tg0 (j := 3) lX7_43 eX7_motionAt_6 rfl hT hA (by decide) rfl rfl rfl ?_ | refine z_tg (j := 3) lX7_43 eX7_motionAt_6 rfl hT hA ⟨by decide, by decide⟩ rfl rfl rfl ?_
      rw [hR.hl]
      refine z_icmp_ge (tgt := 51) eX7_motionAt_9 rfl ⟨⟨by omega, by omega⟩, ⟨by omega, by omega⟩⟩ (fun h9 => (by exfalso; omega)) (fun h9 => ?_)
      refine z_al0 eX7_motionAt_12 hne ?_
      refine z_il3 eX7_motionAt_13 ?_
      refine z_il2 eX7_motionAt_14 ?_
      refine z_V2 eX7_motionAt_15 vX7_92 rfl rfl (Nat.le_of_ble_eq_true rfl) (Nat.le_of_ble_eq_true rfl) ((hA).L0 hT (by decide)) (c_X7_firstBest hT hR hP hM ⟨t0, t1⟩ hv) ?_
      rw [← hs]
      refine z_is4 eX7_motionAt_18 (Nat.ne_of_beq_eq_false rfl) ?_
      refine z_il3 eX7_motionAt_20 ?_
      refine z_il1 eX7_motionAt_21 ?_
      refine z_icmp_ne (tgt := 28) eX7_motionAt_22 rfl ⟨⟨by omega, by omega⟩, ⟨by omega, by omega⟩⟩ (fun h22 => ?_) (fun h22 => ?_)
      · refine z_il2 eX7_motionAt_28 ?_
        refine z_il4 eX7_motionAt_29 ?_
        refine z_iconst eX7_motionAt_31 ?_
        refine z_icmp_ne (tgt := 39) eX7_motionAt_32 rfl ⟨⟨by omega, by omega⟩, ⟨by omega, by omega⟩⟩ (fun h32 => ?_) (fun h32 => ?_)
        · refine z_iconst eX7_motionAt_39 ?_
          refine z_il4 eX7_motionAt_40 ?_
          refine z_ishl eX7_motionAt_42 ?_
          refine z_ior eX7_motionAt_43 ?_
          refine z_is2 eX7_motionAt_44 (Nat.ne_of_beq_eq_false rfl) ?_
          refine z_ii3 eX7_motionAt_45 (Nat.ne_of_beq_eq_false rfl) ?_
          refine z_goto eX7_motionAt_48 (tgt := 4) rfl ?_
          have hih := ih (by omega) (zI (qBestN M (t + 1)).2)
          first | (rw [(hfb.resolve_right (by omega)).2] at hih; rw [zor_0 hq0]; exact hih) | (rw [(hfb.resolve_left (by omega)).2] at hih; exact hih) | fail
        · refine z_iconst eX7_motionAt_35 ?_
          refine z_goto eX7_motionAt_36 (tgt := 43) rfl ?_
          refine z_ior eX7_motionAt_43 ?_
          refine z_is2 eX7_motionAt_44 (Nat.ne_of_beq_eq_false rfl) ?_
          refine z_ii3 eX7_motionAt_45 (Nat.ne_of_beq_eq_false rfl) ?_
          refine z_goto eX7_motionAt_48 (tgt := 4) rfl ?_
          have hih := ih (by omega) (zI (qBestN M (t + 1)).2)
          first | (rw [(hfb.resolve_right (by omega)).2] at hih; rw [zor_0 hq0]; exact hih) | (rw [(hfb.resolve_left (by omega)).2] at hih; exact hih) | fail
      · refine z_il4 eX7_motionAt_25 ?_
        refine z_ireturn eX7_motionAt_27 rfl ?_
        rw [if_pos (by omega), show a + 1 = t + 1 by omega]; exact ⟨rfl, rfl, rfl, rfl⟩
  refine z_iconst eX7_motionAt_0 ?_
  refine z_is2 eX7_motionAt_1 (Nat.ne_of_beq_eq_false rfl) ?_
  refine z_iconst eX7_motionAt_2 ?_
  refine z_is3 eX7_motionAt_3 (Nat.ne_of_beq_eq_false rfl) ?_
  exact hl 0 (by decide) (by omega) (by omega) zU
