/-! Words, on: words and signs taken. -/
section ZIFK
variable {G : zG} {k : zK} {D pc pc' : Nat} {Q : zQ} {L st : List zAV} {lay : zLay} {σ C0 : zMem} {nx x w e : Int} {T : Int → Int} {bb : Nat × Nat}
theorem z_ifk_eq {p : Prop} {off u v g h : Int} {tgt : Nat} (hd : zD k pc (.ifCond .eq off) 3 pc') (ht : zT pc off tgt) (wt : ¬ p → zW G k D Q tgt L st lay (tC x (zTk σ w T e v h) C0) nx bb) (wf : p → zW G k D Q pc' L st lay (tC x (zTk σ w T e u g) C0) nx bb) : zW G k D Q pc L (zI (zbi p) :: st) lay (tC x (zTk σ w T e (zif p u v) (zif p g h)) C0) nx bb :=
  z_ifb_eq hd ht (fun q => by rw [zif_f q, zif_f q]; exact wt q) (fun q => by rw [zif_t q, zif_t q]; exact wf q)
theorem z_ifk_ne {p : Prop} {off u v g h : Int} {tgt : Nat} (hd : zD k pc (.ifCond .ne off) 3 pc') (ht : zT pc off tgt) (wt : p → zW G k D Q tgt L st lay (tC x (zTk σ w T e u g) C0) nx bb) (wf : ¬ p → zW G k D Q pc' L st lay (tC x (zTk σ w T e v h) C0) nx bb) : zW G k D Q pc L (zI (zbi p) :: st) lay (tC x (zTk σ w T e (zif p u v) (zif p g h)) C0) nx bb :=
  z_ifb_ne hd ht (fun q => by rw [zif_t q, zif_t q]; exact wt q) (fun q => by rw [zif_f q, zif_f q]; exact wf q)
end ZIFK
theorem qhas_stop {T : Int → Int} {e b n : Int} {wd : List Int} (h : qhas T e b wd) (hn : (wd.length : Int) = n) (hn1 : 1 ≤ n) (hb : b ≤ e) : b < e ∧ qlet (T b) = true ∧ qStop T e b = b + n ∧ b + n ≤ e := by
  have h1 := h.1
  rw [hn] at h1
  have h2 := qscan_bd (P := qlet) (T := T) (e := e) (k := b)
  by_cases c : b < e
  · by_cases c2 : qlet (T b) = true
    · refine ⟨c, c2, ?_, by omega⟩
      unfold qStop
      rw [if_pos c, if_pos c2, ← qscan_t c c2]
      exact h1
    · rw [qscan_f c c2] at h1; omega
  · rw [qscan_ge (by omega)] at h1; omega
theorem c_X10_takeWord {G : zG} {lay : zLay} {σ C0 : zMem} {nx x w e a f : Int} {T : Int → Int} (hT : TopL lay x) (hX : TxC x σ w T e) (ha : 0 ≤ a ∧ a ≤ e) {t : Nat} {wd : List Int} {n : Int} (hS : TxS lay C0) (hq : (zStr[t]?).map (fun q => q.2.2.2) = some wd) (hn : (wd.length : Int) = n) (hn1 : 1 ≤ n) : zMM G 7 KX10_takeWord [zP (x + w), zP (-10 - (t : Int))] lay (tC x (zTk σ w T e a f) C0) nx (0, 0) (zR (some (zI (zbi (qhas T e (qscan qbl T e a) wd)))) lay (tC x (zTk σ w T e (zif (qhas T e (qscan qbl T e a) wd) (qscan qbl T e a + n) a) (zif (qhas T e (qscan qbl T e a) wd) f f)) (C0)) nx) := by
  refine z_met' (L := [zP (x + w), zP (-10 - (t : Int))]) gX10_takeWord.1 rfl rfl (Nat.le_of_ble_eq_true rfl) rfl ?_
  have hA := hX.A
  have hx := hT.1
  have hw := hX.w1
  have hne : x + w ≠ -1 := by omega
  have hbd := qskip_bd (T := T) ha.2
  refine z_al0 eX10_takeWord_0 hne ?_
  refine z_al1 eX10_takeWord_1 (by omega) ?_
  refine z_V1 eX10_takeWord_2 vX10_52 rfl rfl (Nat.le_of_ble_eq_true rfl) (Nat.le_of_ble_eq_true rfl) ((hA).L0 hT (by decide)) (c_X10_atWord hT hX ha hS hq hn hn1) ?_
  refine z_ifb_ne (tgt := 10) eX10_takeWord_5 rfl (fun h5 => ?_) (fun h5 => ?_)
  · refine z_al0 eX10_takeWord_10 hne ?_
    have hs := qhas_stop h5 hn hn1 hbd.2
    refine z_V0v eX10_takeWord_11 vX10_34 rfl rfl (Nat.le_of_ble_eq_true rfl) (Nat.le_of_ble_eq_true rfl) ((hA).L0 hT (by decide)) (c_X10_advance hT hX (s := qStop T e (qscan qbl T e a)) ⟨by omega, by omega⟩) ?_
    rw [hs.2.2.1]
    refine z_iconst eX10_takeWord_14 ?_
    refine z_zreturn eX10_takeWord_15 rfl (by first | exact Or.inl rfl | exact Or.inr rfl | exact zbi_01 _ | assumption | omega) ?_
    rw [zif_t h5, zif_t h5, zbi_t h5]; exact ⟨rfl, rfl, rfl, rfl⟩
  · refine z_iconst eX10_takeWord_8 ?_
    refine z_zreturn eX10_takeWord_9 rfl (by first | exact Or.inl rfl | exact Or.inr rfl | exact zbi_01 _ | assumption | omega) ?_
    rw [zif_f h5, zif_f h5, zbi_f h5]; exact ⟨rfl, rfl, rfl, rfl⟩
theorem c_X10_needWord {G : zG} {lay : zLay} {σ C0 : zMem} {nx x w e a f : Int} {T : Int → Int} (hT : TopL lay x) (hX : TxC x σ w T e) (ha : 0 ≤ a ∧ a ≤ e) {t : Nat} {wd : List Int} {n : Int} (hS : TxS lay C0) (hq : (zStr[t]?).map (fun q => q.2.2.2) = some wd) (hn : (wd.length : Int) = n) (hn1 : 1 ≤ n) (hf : f = -1) : zMM G 8 KX10_needWord [zP (x + w), zP (-10 - (t : Int))] lay (tC x (zTk σ w T e a f) C0) nx (0, 0) (zR (some (zI (zbi (qhas T e (qscan qbl T e a) wd)))) lay (tC x (zTk σ w T e (zif (qhas T e (qscan qbl T e a) wd) (qscan qbl T e a + n) a) (zif (qhas T e (qscan qbl T e a) wd) f (qscan qbl T e a))) (C0)) nx) := by
  refine z_met' (L := [zP (x + w), zP (-10 - (t : Int))]) gX10_needWord.1 rfl rfl (Nat.le_of_ble_eq_true rfl) rfl ?_
  have hA := hX.A
  have hx := hT.1
  have hw := hX.w1
  have hne : x + w ≠ -1 := by omega
  refine z_al0 eX10_needWord_0 hne ?_
  refine z_al1 eX10_needWord_1 (by omega) ?_
  refine z_V1 eX10_needWord_2 vX10_56 rfl rfl (Nat.le_of_ble_eq_true rfl) (Nat.le_of_ble_eq_true rfl) ((hA).L0 hT (by decide)) (c_X10_takeWord hT hX ha hS hq hn hn1) ?_
  refine z_ifk_ne (tgt := 15) eX10_needWord_5 rfl (fun h5 => ?_) (fun h5 => ?_)
  · refine z_iconst eX10_needWord_15 ?_
    refine z_goto eX10_needWord_16 (tgt := 20) rfl ?_
    refine z_zreturn eX10_needWord_20 rfl (by first | exact Or.inl rfl | exact Or.inr rfl | exact zbi_01 _ | assumption | omega) ?_
    first | (rw [zif_f h5, zif_f h5, zbi_f h5]; exact ⟨rfl, rfl, rfl, rfl⟩) | (rw [zif_t h5, zif_t h5, zbi_t h5]; exact ⟨rfl, rfl, rfl, rfl⟩)
  · refine z_al0 eX10_needWord_8 hne ?_
    refine z_V0 eX10_needWord_9 vX10_59 rfl rfl (Nat.le_of_ble_eq_true rfl) (Nat.le_of_ble_eq_true rfl) ((hA).L0 hT (by decide)) (c_X10_fail hT hX ha (by rw [hf]; decide)) ?_
    rw [if_pos hf]
    refine z_if_eq (tgt := 19) eX10_needWord_12 rfl ⟨by omega, by omega⟩ (fun h12 => ?_) (fun h12 => (by exfalso; omega))
    refine z_iconst eX10_needWord_19 ?_
    refine z_zreturn eX10_needWord_20 rfl (by first | exact Or.inl rfl | exact Or.inr rfl | exact zbi_01 _ | assumption | omega) ?_
    first | (rw [zif_f h5, zif_f h5, zbi_f h5]; exact ⟨rfl, rfl, rfl, rfl⟩) | (rw [zif_t h5, zif_t h5, zbi_t h5]; exact ⟨rfl, rfl, rfl, rfl⟩)
theorem c_X10_takeSign {G : zG} {lay : zLay} {σ C0 : zMem} {nx x w e a f : Int} {T : Int → Int} (hT : TopL lay x) (hX : TxC x σ w T e) (ha : 0 ≤ a ∧ a ≤ e) {c : Int} (hc : 0 ≤ c ∧ c ≤ 255) (hc2 : ¬ qlet c = true ∧ ¬ qdig c = true) : zMM G 2 KX10_takeSign [zP (x + w), zI c] lay (tC x (zTk σ w T e a f) C0) nx (0, 0) (zR (some (zI (zbi (qscan qbl T e a < e ∧ T (qscan qbl T e a) = c)))) lay (tC x (zTk σ w T e (zif (qscan qbl T e a < e ∧ T (qscan qbl T e a) = c) (qscan qbl T e a + 1) a) (zif (qscan qbl T e a < e ∧ T (qscan qbl T e a) = c) f f)) (C0)) nx) := by
  refine z_met' (L := [zP (x + w), zI c]) gX10_takeSign.1 rfl rfl (Nat.le_of_ble_eq_true rfl) rfl ?_
  have hA := hX.A
  have hx := hT.1
  have hw := hX.w1
  have hne : x + w ≠ -1 := by omega
  have hbd := qskip_bd (T := T) ha.2
  refine z_al0 eX10_takeSign_0 hne ?_
  refine z_il1 eX10_takeSign_1 ?_
  refine z_V1 eX10_takeSign_2 vX10_63 rfl rfl (Nat.le_of_ble_eq_true rfl) (Nat.le_of_ble_eq_true rfl) ((hA).L0 hT (by decide)) (c_X10_atSign hT hX ha hc hc2) ?_
  refine z_ifb_ne (tgt := 10) eX10_takeSign_5 rfl (fun h5 => ?_) (fun h5 => ?_)
  · refine z_al0 eX10_takeSign_10 hne ?_
    have hs : qStop T e (qscan qbl T e a) = qscan qbl T e a + 1 := by unfold qStop; rw [if_pos h5.1, h5.2, if_neg hc2.1, if_neg hc2.2]
    refine z_V0v eX10_takeSign_11 vX10_34 rfl rfl (Nat.le_of_ble_eq_true rfl) (Nat.le_of_ble_eq_true rfl) ((hA).L0 hT (by decide)) (c_X10_advance hT hX (s := qStop T e (qscan qbl T e a)) ⟨by omega, by omega⟩) ?_
    rw [hs]
    refine z_iconst eX10_takeSign_14 ?_
    refine z_zreturn eX10_takeSign_15 rfl (by first | exact Or.inl rfl | exact Or.inr rfl | exact zbi_01 _ | assumption | omega) ?_
    rw [zif_t h5, zif_t h5, zbi_t h5]; exact ⟨rfl, rfl, rfl, rfl⟩
  · refine z_iconst eX10_takeSign_8 ?_
    refine z_zreturn eX10_takeSign_9 rfl (by first | exact Or.inl rfl | exact Or.inr rfl | exact zbi_01 _ | assumption | omega) ?_
    rw [zif_f h5, zif_f h5, zbi_f h5]; exact ⟨rfl, rfl, rfl, rfl⟩
theorem c_X10_needSign {G : zG} {lay : zLay} {σ C0 : zMem} {nx x w e a f : Int} {T : Int → Int} (hT : TopL lay x) (hX : TxC x σ w T e) (ha : 0 ≤ a ∧ a ≤ e) {c : Int} (hc : 0 ≤ c ∧ c ≤ 255) (hc2 : ¬ qlet c = true ∧ ¬ qdig c = true) (hf : f = -1) : zMM G 3 KX10_needSign [zP (x + w), zI c] lay (tC x (zTk σ w T e a f) C0) nx (0, 0) (zR (some (zI (zbi (qscan qbl T e a < e ∧ T (qscan qbl T e a) = c)))) lay (tC x (zTk σ w T e (zif (qscan qbl T e a < e ∧ T (qscan qbl T e a) = c) (qscan qbl T e a + 1) a) (zif (qscan qbl T e a < e ∧ T (qscan qbl T e a) = c) f (qscan qbl T e a))) (C0)) nx) := by
  refine z_met' (L := [zP (x + w), zI c]) gX10_needSign.1 rfl rfl (Nat.le_of_ble_eq_true rfl) rfl ?_
  have hA := hX.A
  have hx := hT.1
  have hw := hX.w1
  have hne : x + w ≠ -1 := by omega
  refine z_al0 eX10_needSign_0 hne ?_
  refine z_il1 eX10_needSign_1 ?_
  refine z_V1 eX10_needSign_2 vX10_67 rfl rfl (Nat.le_of_ble_eq_true rfl) (Nat.le_of_ble_eq_true rfl) ((hA).L0 hT (by decide)) (c_X10_takeSign hT hX ha hc hc2) ?_
  refine z_ifk_ne (tgt := 15) eX10_needSign_5 rfl (fun h5 => ?_) (fun h5 => ?_)
  · refine z_iconst eX10_needSign_15 ?_
    refine z_goto eX10_needSign_16 (tgt := 20) rfl ?_
    refine z_zreturn eX10_needSign_20 rfl (by first | exact Or.inl rfl | exact Or.inr rfl | exact zbi_01 _ | assumption | omega) ?_
    first | (rw [zif_f h5, zif_f h5, zbi_f h5]; exact ⟨rfl, rfl, rfl, rfl⟩) | (rw [zif_t h5, zif_t h5, zbi_t h5]; exact ⟨rfl, rfl, rfl, rfl⟩)
  · refine z_al0 eX10_needSign_8 hne ?_
    refine z_V0 eX10_needSign_9 vX10_59 rfl rfl (Nat.le_of_ble_eq_true rfl) (Nat.le_of_ble_eq_true rfl) ((hA).L0 hT (by decide)) (c_X10_fail hT hX ha (by rw [hf]; decide)) ?_
    rw [if_pos hf]
    refine z_if_eq (tgt := 19) eX10_needSign_12 rfl ⟨by omega, by omega⟩ (fun h12 => ?_) (fun h12 => (by exfalso; omega))
    refine z_iconst eX10_needSign_19 ?_
    refine z_zreturn eX10_needSign_20 rfl (by first | exact Or.inl rfl | exact Or.inr rfl | exact zbi_01 _ | assumption | omega) ?_
    first | (rw [zif_f h5, zif_f h5, zbi_f h5]; exact ⟨rfl, rfl, rfl, rfl⟩) | (rw [zif_t h5, zif_t h5, zbi_t h5]; exact ⟨rfl, rfl, rfl, rfl⟩)
