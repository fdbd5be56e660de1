/-! Posts. -/
theorem qCnt_new {u k : Int} (hk : 0 ≤ k ∧ k < 8) (hf : ¬ zbit u k = 1) : qCnt (zor u (zshl 1 k)) = qCnt u + 1 := by
  unfold qCnt
  have := zsum_drop (f := fun t => if zB (zor u (zshl 1 k)) t.toNat = true then (1 : Int) else 0) (g := fun t => if zB u t.toNat = true then (1 : Int) else 0) (p := k) 8 hk.1 hk.2 (fun t t0 t1 q => by
    have h := zbit_set (u := u) (p := k) (i := t) ⟨hk.1, by omega⟩ ⟨t0, by omega⟩
    rw [zbit_B1 t0 (by omega), zbit_B1 t0 (by omega)] at h
    by_cases e : zB u t.toNat = true
    · rw [if_pos e, if_pos (h.mpr (Or.inl e))]
    · rw [if_neg e, if_neg (fun z => (h.mp z).elim e q)]) (by
    rw [if_neg (fun z => hf ((zbit_B1 hk.1 (by omega)).mpr z))])
  rw [show ((8 : Nat) : Int) = 8 from rfl] at this
  rw [this, if_pos ((zbit_B1 (s := zor u (zshl 1 k)) hk.1 (by omega)).mp ((zbit_set ⟨hk.1, by omega⟩ ⟨hk.1, by omega⟩).mpr (Or.inr rfl)))]
  omega
theorem zor_gt {u k : Int} (hu : 0 ≤ u ∧ u < 256) (hk : 0 ≤ k ∧ k < 8) (hf : ¬ zbit u k = 1) : u < zor u (zshl 1 k) := by
  have h : ∀ a, a < 256 → ∀ c, c < 8 → zbit (a : Nat) (c : Nat) = 1 ∨ ((a : Nat) : Int) < zor (a : Nat) (zshl 1 (c : Nat)) := by decide +kernel
  have := h u.toNat (by omega) k.toNat (by omega)
  rw [Int.toNat_of_nonneg hu.1, Int.toNat_of_nonneg hk.1] at this
  exact this.resolve_left hf
noncomputable def qPoC (M : Int → Int) (p u n : Int) : Int := zfold (fun k cur => if zbit u k = 1 then cur else qGr cur (M (38 + k) * M (46 + 4 * p + 1) + qPoT M (p + 1) (zor u (zshl 1 k)))) 0 n
theorem qPoT_ge {M : Int → Int} (hM : zOK M) {p u : Int} (hp : 0 ≤ p ∧ p ≤ M 3) (hc : qCnt u = p) : 0 ≤ qPoT M p u := by
  have hm3 := hM.1.m3
  unfold qPoT
  exact qPo_ge hM _ (by omega) u (by omega)
theorem qPoC_q {M : Int → Int} (hM : zOK M) {p u : Int} (hp : 0 ≤ p ∧ p < M 3) (hc : qCnt u = p) : ∀ n : Nat, n ≤ 8 → -1 ≤ zfold (qPoK M p (qPoT M (p + 1)) u) (-1) n ∧ qPoC M p u n = if zfold (qPoK M p (qPoT M (p + 1)) u) (-1) n < 0 then 0 else zfold (qPoK M p (qPoT M (p + 1)) u) (-1) n := by
  have hm3 := hM.1.m3
  have hU := hM.1.U (p := p) ⟨hp.1, by omega⟩
  intro n
  induction n with
  | zero => intro _; exact ⟨by show (-1 : Int) ≤ -1; decide, rfl⟩
  | succ n ih =>
    intro hn
    obtain ⟨i1, i2⟩ := ih (by omega)
    rw [show ((n + 1 : Nat) : Int) = (n : Int) + 1 by omega, zfold_s _ _ (by omega), show qPoC M p u ((n : Int) + 1) = (if zbit u n = 1 then qPoC M p u n else qGr (qPoC M p u n) (M (38 + n) * M (46 + 4 * p + 1) + qPoT M (p + 1) (zor u (zshl 1 n)))) from zfold_s _ _ (by omega), i2]
    generalize zfold (qPoK M p (qPoT M (p + 1)) u) (-1) (n : Int) = a at i1 ⊢
    unfold qPoK
    by_cases e : zbit u n = 1
    · rw [if_pos e, if_pos (Or.inl e)]; exact ⟨i1, rfl⟩
    · have h1 := qPoT_ge hM (p := p + 1) (u := zor u (zshl 1 n)) ⟨by omega, by omega⟩ (by rw [qCnt_new ⟨by omega, by omega⟩ e]; omega)
      have hE := hM.1.E (k := n) ⟨by omega, by omega⟩
      have h2 := Int.mul_nonneg hE.1 hU.2.1.1
      rw [if_neg e, if_neg (fun z => z.elim e (fun q => by omega))]
      generalize M (38 + (n : Int)) * M (46 + 4 * p + 1) = w at h2 ⊢
      generalize qPoT M (p + 1) (zor u (zshl 1 (n : Int))) = v at h1 ⊢
      unfold qGr
      rw [Int.add_comm v w]
      constructor
      · split <;> omega
      · (repeat' split) <;> omega
theorem qPoC_8 {M : Int → Int} (hM : zOK M) {p u : Int} (hp : 0 ≤ p ∧ p < M 3) (hc : qCnt u = p) : qPoC M p u 8 = qPoT M p u := by
  have h := (qPoC_q hM hp hc 8 (by decide)).2
  rw [show ((8 : Nat) : Int) = 8 from rfl] at h
  have h2 := qPoT_ge hM (p := p) (u := u) ⟨hp.1, by omega⟩ hc
  rw [qPoT_s hp.2] at h2 ⊢
  rw [h, if_neg (by omega)]
theorem qPoC_bd {M : Int → Int} (hM : zOK M) {p u n : Int} (hp : 0 ≤ p ∧ p < M 3) (hc : qCnt u = p) (hn : 0 ≤ n ∧ n ≤ 8) : 0 ≤ qPoC M p u n ∧ qPoC M p u n ≤ 2000 := by
  have hm3 := hM.1.m3
  have h := (qPoC_q hM hp hc n.toNat (by omega)).2
  rw [Int.toNat_of_nonneg hn.1] at h
  have h2 := qPoF_bd hM (p := p) (c := 1260) ⟨hp.1, by omega⟩ (by decide) (T := qPoT M (p + 1)) (fun set => qPoT_bd hM ⟨by omega, by omega⟩ set) u hn
  rw [h]
  split <;> omega
def PoV (σ : zMem) (M : Int → Int) (u0 : Int) : Prop := ∀ u, u0 ≤ u → u < 256 → 0 ≤ u → qCnt u ≤ M 3 → σ 311 u = qPoT M (qCnt u) u
theorem c_X7_withPlace {G : zG} {lay : zLay} {σ C0 : zMem} {nx x b : Int} (hT : TopL lay x) {u p k : Int} {M : Int → Int} (hB : CoAt b) (hN : CoN σ b M) (hI : zInv M) (hP : PoV σ M (u + 1)) (hu : 0 ≤ u ∧ u < 256) (hc : qCnt u = p) (hp : 0 ≤ p ∧ p < M 3) (hk : 0 ≤ k ∧ k < 8) (hf : ¬ zbit u k = 1) : zMM G 1 KX7_withPlace [zP (x + 310), zI u, zI p, zI k, zP (x + b)] lay (tC x σ C0) nx (0, 0) (zR (some (zI (M (38 + k) * M (46 + 4 * p + 1) + qPoT M (p + 1) (zor u (zshl 1 k))))) lay (tC x (σ) (C0)) nx) := by
  refine z_met' (L := [zP (x + 310), zI u, zI p, zI k, zP (x + b)]) gX7_withPlace.1 rfl rfl (Nat.le_of_ble_eq_true rfl) rfl ?_
  have hA := PlAt
  have hb0 := hB.b0 (by decide)
  have hx := hT.1
  have hne : x + 310 ≠ -1 := by omega
  have hm3 := hI.m3
  have h256 := zor_256 hu hk
  have hgt := zor_gt hu hk hf
  have hcn := qCnt_new hk hf
  refine z_al4 eX7_withPlace_0 (by omega) ?_
  first | refine z_ta0 lX7_102 eX7_withPlace_2 rfl hT hB (by decide) rfl rfl ?_ | refine z_ta lX7_102 eX7_withPlace_2 rfl hT hB ⟨by decide, by decide⟩ rfl rfl ?_
  refine z_il3 eX7_withPlace_5 ?_
  refine z_tl eX7_withPlace_6 hT hB ⟨by decide, by decide⟩ rfl rfl ⟨by omega, by omega⟩ ?_
  rw [hN.ex k hk.1 hk.2]
  refine z_al4 eX7_withPlace_7 (by omega) ?_
  first | refine z_ta0 lX7_105 eX7_withPlace_9 rfl hT hB (by decide) rfl rfl ?_ | refine z_ta lX7_105 eX7_withPlace_9 rfl hT hB ⟨by decide, by decide⟩ rfl rfl ?_
  refine z_il2 eX7_withPlace_12 ?_
  refine z_tl eX7_withPlace_13 hT hB ⟨by decide, by decide⟩ rfl rfl ⟨by omega, by omega⟩ ?_
  rw [hN.se p hp.1 hp.2]
  refine z_imul eX7_withPlace_14 ?_
  refine z_al0 eX7_withPlace_15 hne ?_
  first | refine z_ta0 lX7_9 eX7_withPlace_16 rfl hT hA (by decide) rfl rfl ?_ | refine z_ta lX7_9 eX7_withPlace_16 rfl hT hA ⟨by decide, by decide⟩ rfl rfl ?_
  refine z_il1 eX7_withPlace_19 ?_
  refine z_iconst eX7_withPlace_20 ?_
  refine z_il3 eX7_withPlace_21 ?_
  refine z_ishl eX7_withPlace_22 ?_
  refine z_ior eX7_withPlace_23 ?_
  refine z_tl eX7_withPlace_24 hT hA ⟨by decide, by decide⟩ rfl rfl ⟨by omega, by omega⟩ ?_
  rw [show σ (310 + 1) (zor u (zshl 1 k)) = σ 311 (zor u (zshl 1 k)) from rfl, hP _ (by omega) h256.2 h256.1 (by omega), hcn, hc]
  refine z_iadd eX7_withPlace_25 ?_
  refine z_ireturn eX7_withPlace_26 rfl ?_
  first | exact ⟨rfl, rfl, rfl, rfl⟩ | exact zRb1 (by omega) | exact zRb0 (by omega) | exact zRe (by omega)
theorem c_X7_firstPlace {G : zG} {lay : zLay} {σ C0 : zMem} {nx x b : Int} (hT : TopL lay x) {u p : Int} {M : Int → Int} (hB : CoAt b) (hN : CoN σ b M) (hM : zOK M) (hP : PoV σ M 0) (hu : 0 ≤ u ∧ u < 256) (hc : qCnt u = p) (hp : 0 ≤ p ∧ p < M 3) : zMM G 2 KX7_firstPlace [zP (x + 310), zI u, zI p, zP (x + b)] lay (tC x σ C0) nx (0, 0) (zR (some (zI (qPoH M p u).2)) lay (tC x (σ) (C0)) nx) := by
  refine z_met' (L := [zP (x + 310), zI u, zI p, zP (x + b), zU]) gX7_firstPlace.1 rfl rfl (Nat.le_of_ble_eq_true rfl) rfl ?_
  have hA := PlAt
  have hb0 := hB.b0 (by decide)
  have hx := hT.1
  have hne : x + 310 ≠ -1 := by omega
  have hI := hM.1
  have hm3 := hI.m3
  have hU := hI.U (p := p) ⟨hp.1, by omega⟩
  have hP0 := hP
  replace hP : PoV σ M (u + 1) := fun a c d e => hP0 a (by omega) d e
  have hbt := qPoT_bd hM (p := p) ⟨hp.1, by omega⟩ u
  have e2 : (qPoH M p u).2 = qFrom (qPoP M p u) 0 8 := rfl
  have hl : ∀ t : Int, 0 ≤ t → t ≤ 8 → (∀ j, 0 ≤ j → j < t → ¬ qPoP M p u j) → zW G KX7_firstPlace 2 (zR (some (zI (qPoH M p u).2)) lay (tC x σ C0) nx) 3 [zP (x + 310), zI u, zI p, zP (x + b), zI t] [] lay (tC x σ C0) nx (0, 0) := by
    refine z_up 8 ?_ ?_
    · intro hno
      refine z_il4 eX7_firstPlace_3 ?_
      refine z_bipush eX7_firstPlace_5 (by decide) ?_
      refine z_icmp_ge (tgt := 46) eX7_firstPlace_7 rfl ⟨⟨by omega, by omega⟩, ⟨by omega, by omega⟩⟩ (fun h7 => ?_) (fun h7 => (by exfalso; omega))
      refine z_iconst eX7_firstPlace_46 ?_
      refine z_ireturn eX7_firstPlace_47 rfl ?_
      rw [e2, qFrom_no (by decide) hno]; exact ⟨rfl, rfl, rfl, rfl⟩
    · intro t t0 t1 ih hno
      have z01 := zbit_01 u t
      have hE := hI.E (k := t) ⟨t0, t1⟩
      have hw := zmul_bd hE hU.2.1
      have hq := qPoT_bd hM (p := p + 1) ⟨by omega, by omega⟩ (zor u (zshl 1 t))
      have hg : ¬ zbit u t = 1 → 0 ≤ qPoT M (p + 1) (zor u (zshl 1 t)) := fun z => qPoT_ge hM ⟨by omega, by omega⟩ (by rw [qCnt_new ⟨t0, t1⟩ z]; omega)
      have hnx : ¬ qPoP M p u t → ∀ j, 0 ≤ j → j < t + 1 → ¬ qPoP M p u j := by
        intro z j j0 j1
        by_cases e : j = t
        · rw [e]; exact z
        · exact hno j j0 (by omega)
      refine z_il4 eX7_firstPlace_3 ?_
      refine z_bipush eX7_firstPlace_5 (by decide) ?_
      refine z_icmp_ge (tgt := 46) eX7_firstPlace_7 rfl ⟨⟨by omega, by omega⟩, ⟨by omega, by omega⟩⟩ (fun h7 => (by exfalso; omega)) (fun h7 => ?_)
      refine z_il1 eX7_firstPlace_10 ?_
      refine z_il4 eX7_firstPlace_11 ?_
      refine z_N2 eX7_firstPlace_13 vX7_55 rfl (Nat.le_of_ble_eq_true rfl) (Nat.le_of_ble_eq_true rfl) (c_X11_bitOf hT ⟨by omega, by omega⟩) ?_
      refine z_if_ne (tgt := 40) eX7_firstPlace_16 rfl ⟨by omega, by omega⟩ (fun h16 => ?_) (fun h16 => ?_)
      · refine z_ii4 eX7_firstPlace_40 (Nat.ne_of_beq_eq_false rfl) ?_
        refine z_goto eX7_firstPlace_43 (tgt := 3) rfl ?_
        first | exact ih (hnx (fun z => z.1 (by omega))) | exact ih (hnx (fun z => by have := z.2.2; omega)) | fail
      · refine z_al0 eX7_firstPlace_19 hne ?_
        refine z_il1 eX7_firstPlace_20 ?_
        refine z_il2 eX7_firstPlace_21 ?_
        refine z_il4 eX7_firstPlace_22 ?_
        refine z_al3 eX7_firstPlace_24 (by omega) ?_
        refine z_V4 eX7_firstPlace_25 vX7_98 rfl rfl (Nat.le_of_ble_eq_true rfl) (Nat.le_of_ble_eq_true rfl) ((hA).L0 hT (by decide)) (c_X7_withPlace hT hB hN hI hP hu hc hp ⟨t0, t1⟩ (by omega)) ?_
        refine z_al0 eX7_firstPlace_28 hne ?_
        first | refine z_ta0 lX7_9 eX7_firstPlace_29 rfl hT hA (by decide) rfl rfl ?_ | refine z_ta lX7_9 eX7_firstPlace_29 rfl hT hA ⟨by decide, by decide⟩ rfl rfl ?_
        refine z_il1 eX7_firstPlace_32 ?_
        refine z_tl eX7_firstPlace_33 hT hA ⟨by decide, by decide⟩ rfl rfl ⟨by omega, by omega⟩ ?_
        rw [show σ (310 + 1) u = σ 311 u from rfl, hP0 u (by omega) hu.2 hu.1 (by omega), hc]
        refine z_icmp_ne (tgt := 40) eX7_firstPlace_34 rfl ⟨⟨by omega, by omega⟩, ⟨by omega, by omega⟩⟩ (fun h34 => ?_) (fun h34 => ?_)
        · refine z_ii4 eX7_firstPlace_40 (Nat.ne_of_beq_eq_false rfl) ?_
          refine z_goto eX7_firstPlace_43 (tgt := 3) rfl ?_
          first | exact ih (hnx (fun z => z.1 (by omega))) | exact ih (hnx (fun z => by have := z.2.2; omega)) | fail
        · refine z_il4 eX7_firstPlace_37 ?_
          refine z_ireturn eX7_firstPlace_39 rfl ?_
          rw [e2, qFrom_eq t0 t1 ⟨by omega, by have := hg (by omega); omega, by omega⟩ hno]; exact ⟨rfl, rfl, rfl, rfl⟩
  refine z_iconst eX7_firstPlace_0 ?_
  refine z_is4 eX7_firstPlace_1 (Nat.ne_of_beq_eq_false rfl) ?_
  exact hl 0 (by decide) (by decide) (fun j j0 j1 => by omega)
