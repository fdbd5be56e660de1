/-! What hours bring, by motions that are taken. -/
/-- s is σ but for scratch, the rows 7 to 11 among it -/
def zScx (σ s : zMem) : Prop := (∀ j, zNs j → s 0 j = σ 0 j) ∧ (∀ o, 1 ≤ o → o ≤ 5 → s o = σ o) ∧ zJs s
theorem zScw.x {σ s : zMem} (h : zScw σ s) : zScx σ s := ⟨h.1, fun o h1 h5 => h.2.1 o (by omega) ⟨by omega, by omega, by omega⟩, h.2.2⟩
theorem zScr.x {σ s : zMem} (h : zScr σ s) : zScx σ s := h.w.x
theorem zScx.refl {σ : zMem} (h : zJs σ) : zScx σ σ := ⟨fun _ _ => rfl, fun _ _ _ => rfl, h⟩
theorem zScx.trans {σ s t : zMem} (h : zScx σ s) (h2 : zScx s t) : zScx σ t := ⟨fun j hj => (h2.1 j hj).trans (h.1 j hj), fun o h0 h6 => (h2.2.1 o h0 h6).trans (h.2.1 o h0 h6), h2.2.2⟩
theorem zScx.r1 {σ s : zMem} (h : zScx σ s) : s 1 = σ 1 := h.2.1 1 (by decide) (by decide)
theorem zScx.r3 {σ s : zMem} (h : zScx σ s) : s 3 = σ 3 := h.2.1 3 (by decide) (by decide)
theorem zScx.r5 {σ s : zMem} (h : zScx σ s) : s 5 = σ 5 := h.2.1 5 (by decide) (by decide)
theorem zScx.n0 {σ s : zMem} (h : zScx σ s) : s 0 0 = σ 0 0 := h.1 0 (by unfold zNs; omega)
theorem zScx.n6 {σ s : zMem} (h : zScx σ s) : s 0 6 = σ 0 6 := h.1 6 (by unfold zNs; omega)
theorem zScx.n8 {σ s : zMem} (h : zScx σ s) : s 0 8 = σ 0 8 := h.1 8 (by unfold zNs; omega)
theorem zScx.n12 {σ s : zMem} (h : zScx σ s) : s 0 12 = σ 0 12 := h.1 12 (by unfold zNs; omega)
theorem zScx.n25 {σ s : zMem} (h : zScx σ s) : s 0 25 = σ 0 25 := h.1 25 (by unfold zNs; omega)
theorem zScx.set {σ s : zMem} (h : zScx σ s) {o j v : Int} (ho : o ≠ 6) (hj : o = 0 → zNs j) : zScx (zset σ o j v) (zset s o j v) := by
  refine ⟨fun i hi => ?_, fun p h0 h6 => ?_, h.2.2.set ho hj⟩
  · rw [zset_at, zset_at, h.1 i hi]
  · funext i; rw [zset_at, zset_at, h.2.1 p h0 h6]
theorem zScx.row {σ s : zMem} (h : zScx σ s) {o : Int} {A : Int → Int} (ho : 7 ≤ o) : zScx σ (zRow s o A) := by
  refine ⟨fun i hi => ?_, fun p h0 h6 => ?_, ?_⟩
  · rw [zRow_o (by omega), h.1 i hi]
  · rw [zRow_o (by omega), h.2.1 p h0 h6]
  · unfold zJs
    rw [zRow_o (by omega), zRow_o (by omega)]
    exact h.2.2
theorem zRx1 {σ : zMem} {A : Int → Int} : zRow σ 11 A 1 = σ 1 := zRow_o (by decide)
theorem zRxs {σ : zMem} {j v : Int} : zset σ 11 j v = zRow σ 11 (zput (σ 11) j v) := by
  have := zRow_put (σ := σ) (o := 11) (A := σ 11) (j := j) (v := v)
  rwa [zRow_self] at this
theorem zJs.row {σ : zMem} (h : zJs σ) {o : Int} {A : Int → Int} (ho : 7 ≤ o) : zJs (zRow σ o A) := ((zScx.refl h).row ho).2.2
def qGr (a c : Int) : Int := if c < a then a else c
/-- one motion more is asked -/
noncomputable def qPapK (M : Int → Int) (h : Int) (T : Int → Int) (set k cur : Int) : Int := if M (74 + 5 * k + 4) = 0 ∧ ¬ zbit set k = 1 then qGr cur (qBring M k h + T (zor set (zshl 1 k))) else cur
/-- what the n last hours of the day bring, a set being taken -/
noncomputable def qPap (M : Int → Int) : Nat → Int → Int
  | 0, _ => 0
  | n + 1, set => zfold (qPapK M (11 - n) (qPap M n) set) (qPap M n set) (M 4)
theorem qBring_bd {M : Int → Int} (hM : zOK M) {k h : Int} (hk : 0 ≤ k ∧ k < 8) (hh : M 6 ≤ h) : 0 ≤ qBring M k h ∧ qBring M k h ≤ 5000000 := by
  have hV := hM.1.V hk
  have hc := qCar_bd hM k (n := h - M 6 + 1) (by omega)
  unfold qBring
  split
  · refine ⟨Int.mul_nonneg hc.1 hV.2.2.1.1, ?_⟩
    have := Int.mul_le_mul hc.2 hV.2.2.1.2 hV.2.2.1.1 (by decide)
    omega
  · decide
theorem qPapF_bd {M : Int → Int} (hM : zOK M) {h c : Int} (hh : M 6 ≤ h) {T : Int → Int} (hT : ∀ set, 0 ≤ T set ∧ T set ≤ c) (set : Int) {n : Int} (hn : 0 ≤ n ∧ n ≤ 8) : 0 ≤ zfold (qPapK M h T set) (T set) n ∧ zfold (qPapK M h T set) (T set) n ≤ 5000000 + c := by
  have : n ≤ 8 → 0 ≤ zfold (qPapK M h T set) (T set) n ∧ zfold (qPapK M h T set) (T set) n ≤ 5000000 + c := zfold_P (f := qPapK M h T set) (P := fun k r => k ≤ 8 → 0 ≤ r ∧ r ≤ 5000000 + c) (s := T set) (fun _ => by have := hT set; omega) (fun t r ht hr h8 => by
    have h1 := hr (by omega)
    have h2 := qBring_bd hM (k := t) (h := h) ⟨ht, by omega⟩ hh
    have h3 := hT (zor set (zshl 1 t))
    unfold qPapK qGr
    split
    · split <;> omega
    · exact h1) n hn.1
  exact this hn.2
theorem qPap_bd {M : Int → Int} (hM : zOK M) : ∀ n : Nat, (n : Int) + M 6 ≤ 12 → ∀ set, 0 ≤ qPap M n set ∧ qPap M n set ≤ 5000000 * n := by
  have h4 := hM.1.m4
  intro n
  induction n with
  | zero => intro _ set; unfold qPap; omega
  | succ n ih =>
    intro hn set
    have := qPapF_bd hM (h := 11 - n) (c := 5000000 * n) (by omega) (ih (by omega)) set h4
    unfold qPap
    omega
