/-! How likely each sky is, an hour on. -/
theorem zsum_5 (f : Int → Int) : zsum f 5 = f 0 + f 1 + f 2 + f 3 + f 4 := by
  rw [show (5 : Int) = 4 + 1 by decide, zsum_s _ (by decide), show (4 : Int) = 3 + 1 by decide, zsum_s _ (by decide), show (3 : Int) = 2 + 1 by decide, zsum_s _ (by decide), show (2 : Int) = 1 + 1 by decide, zsum_s _ (by decide), show (1 : Int) = 0 + 1 by decide, zsum_s _ (by decide), zsum_0]
  simp
def qShare (M c : Int → Int) (s t : Int) : Int := c s * M (13 + 5 * s + t) / zsum (fun t => M (13 + 5 * s + t)) 5
def qTop (M : Int → Int) (s n : Int) : Int := zfold (fun t top => if M (13 + 5 * s + top) < M (13 + 5 * s + t) then t else top) 0 n
def qOver (M c : Int → Int) (s : Int) : Int := c s - zsum (fun t => qShare M c s t) 5
def qGoT (M c : Int → Int) (t s : Int) : Int := qShare M c s t + (if t = qTop M s 5 then qOver M c s else 0)
def qGoC (M c : Int → Int) (t : Int) : Int := zsum (qGoT M c t) 5
theorem qTop_bd (M : Int → Int) (s : Int) {n : Int} (hn : 0 ≤ n) (h5 : n ≤ 5) : 0 ≤ qTop M s n ∧ qTop M s n < 5 := by
  have : 0 ≤ qTop M s n ∧ (qTop M s n = 0 ∨ qTop M s n < n) := zfold_P (f := fun t top => if M (13 + 5 * s + top) < M (13 + 5 * s + t) then t else top) (P := fun n (r : Int) => 0 ≤ r ∧ (r = 0 ∨ r < n)) (s := 0) ⟨by decide, Or.inl rfl⟩ (fun t r ht h => by
    split <;> omega) n hn
  omega
/-- the chances are in their bounds -/
def zCh (c : Int → Int) : Prop := (∀ s, 0 ≤ s → s < 5 → 0 ≤ c s) ∧ zsum c 5 ≤ 10000
theorem zCh.bd {c : Int → Int} (h : zCh c) {s : Int} (h0 : 0 ≤ s) (h1 : s < 5) : 0 ≤ c s ∧ c s ≤ 10000 := by
  have h2 := h.2
  rw [zsum_5] at h2
  have a0 := h.1 0 (by decide) (by decide)
  have a1 := h.1 1 (by decide) (by decide)
  have a2 := h.1 2 (by decide) (by decide)
  have a3 := h.1 3 (by decide) (by decide)
  have a4 := h.1 4 (by decide) (by decide)
  have hs : s = 0 ∨ s = 1 ∨ s = 2 ∨ s = 3 ∨ s = 4 := by omega
  rcases hs with e | e | e | e | e <;> subst e <;> omega
theorem qShare_bd {M c : Int → Int} {s t : Int} (hc : 0 ≤ c s ∧ c s ≤ 10000) (hw : 0 ≤ M (13 + 5 * s + t) ∧ M (13 + 5 * s + t) ≤ 9) (hz : 1 ≤ zsum (fun t => M (13 + 5 * s + t)) 5) : (0 ≤ c s * M (13 + 5 * s + t) ∧ c s * M (13 + 5 * s + t) ≤ 90000) ∧ 0 ≤ qShare M c s t := by
  have h0 : 0 ≤ c s * M (13 + 5 * s + t) := Int.mul_nonneg hc.1 hw.1
  refine ⟨⟨h0, ?_⟩, Int.ediv_nonneg h0 (by omega)⟩
  have h1 : c s * M (13 + 5 * s + t) ≤ c s * 9 := Int.mul_le_mul_of_nonneg_left hw.2 hc.1
  omega
theorem zdiv_5 {a b c d e n : Int} (h : 1 ≤ n) : a / n + b / n + c / n + d / n + e / n ≤ (a + b + c + d + e) / n := by
  have h1 := Int.ediv_mul_le a (b := n) (by omega)
  have h2 := Int.ediv_mul_le b (b := n) (by omega)
  have h3 := Int.ediv_mul_le c (b := n) (by omega)
  have h4 := Int.ediv_mul_le d (b := n) (by omega)
  have h5 := Int.ediv_mul_le e (b := n) (by omega)
  refine (Int.le_ediv_iff_mul_le (by omega)).mpr ?_
  rw [Int.add_mul, Int.add_mul, Int.add_mul, Int.add_mul]
  omega
theorem qOver_bd {M c : Int → Int} {s : Int} (hc : 0 ≤ c s) (hz : 1 ≤ zsum (fun t => M (13 + 5 * s + t)) 5) : 0 ≤ qOver M c s := by
  unfold qOver
  rw [zsum_5]
  have h := zdiv_5 (a := c s * M (13 + 5 * s + 0)) (b := c s * M (13 + 5 * s + 1)) (c := c s * M (13 + 5 * s + 2)) (d := c s * M (13 + 5 * s + 3)) (e := c s * M (13 + 5 * s + 4)) hz
  have e : c s * M (13 + 5 * s + 0) + c s * M (13 + 5 * s + 1) + c s * M (13 + 5 * s + 2) + c s * M (13 + 5 * s + 3) + c s * M (13 + 5 * s + 4) = c s * zsum (fun t => M (13 + 5 * s + t)) 5 := by
    rw [zsum_5, Int.mul_add, Int.mul_add, Int.mul_add, Int.mul_add]
  rw [e, Int.mul_ediv_cancel _ (by omega)] at h
  unfold qShare
  omega
theorem zsum_add (f g : Int → Int) {n : Int} (hn : 0 ≤ n) : zsum (fun t => f t + g t) n = zsum f n + zsum g n := by
  have : ∀ m : Nat, zsum (fun t => f t + g t) m = zsum f m + zsum g m := by
    intro m
    induction m with
    | zero => rfl
    | succ m ih =>
      rw [show ((m + 1 : Nat) : Int) = (m : Int) + 1 by omega, zsum_s _ (by omega), zsum_s _ (by omega), zsum_s _ (by omega), ih]
      omega
  have h := this n.toNat
  rwa [Int.toNat_of_nonneg hn] at h
theorem qGoC_ok {M c : Int → Int} (hM : zOK M) (hc : zCh c) : zCh (qGoC M c) ∧ zsum (qGoC M c) 5 = zsum c 5 := by
  have hz : ∀ s, 0 ≤ s → s < 5 → 1 ≤ zsum (fun t => M (13 + 5 * s + t)) 5 := fun s h0 h1 => hM.2 s h0 (by omega)
  have hn : ∀ s t, 0 ≤ s → s < 5 → 0 ≤ t → t < 5 → 0 ≤ qGoT M c t s := by
    intro s t s0 s1 t0 t1
    have h1 := (qShare_bd (t := t) (hc.bd s0 s1) (hM.1.W ⟨s0, s1⟩ ⟨t0, t1⟩) (hz s s0 s1)).2
    have h2 := qOver_bd (M := M) (hc.1 s s0 s1) (hz s s0 s1)
    unfold qGoT
    split <;> omega
  have hs : ∀ s, 0 ≤ s → s < 5 → qGoT M c 0 s + qGoT M c 1 s + qGoT M c 2 s + qGoT M c 3 s + qGoT M c 4 s = c s := by
    intro s s0 s1
    have ht := qTop_bd M s (n := 5) (by decide) (by decide)
    have ho : qOver M c s = c s - zsum (fun t => qShare M c s t) 5 := rfl
    rw [zsum_5] at ho
    unfold qGoT
    generalize qTop M s 5 = p at ht ⊢
    have hp : p = 0 ∨ p = 1 ∨ p = 2 ∨ p = 3 ∨ p = 4 := by omega
    rcases hp with e | e | e | e | e <;> subst e <;> simp <;> omega
  have e : zsum (qGoC M c) 5 = zsum c 5 := by
    rw [zsum_5, zsum_5]
    unfold qGoC
    rw [zsum_5, zsum_5, zsum_5, zsum_5, zsum_5]
    have a0 := hs 0 (by decide) (by decide)
    have a1 := hs 1 (by decide) (by decide)
    have a2 := hs 2 (by decide) (by decide)
    have a3 := hs 3 (by decide) (by decide)
    have a4 := hs 4 (by decide) (by decide)
    omega
  refine ⟨⟨fun t t0 t1 => ?_, by rw [e]; exact hc.2⟩, e⟩
  unfold qGoC
  rw [zsum_5]
  have a0 := hn 0 t (by decide) (by decide) t0 t1
  have a1 := hn 1 t (by decide) (by decide) t0 t1
  have a2 := hn 2 t (by decide) (by decide) t0 t1
  have a3 := hn 3 t (by decide) (by decide) t0 t1
  have a4 := hn 4 t (by decide) (by decide) t0 t1
  omega
