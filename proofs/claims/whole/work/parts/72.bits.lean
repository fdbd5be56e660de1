/-! Numbers as sets of bits. -/
/-- bit k of a number -/
def zB (v : Int) (k : Nat) : Bool := (Int32.ofInt v).toBitVec.getLsbD k
theorem zB_and (x y : Int) (k : Nat) : zB (zand x y) k = (zB x k && zB y k) := by
  unfold zB zand
  rw [Int32.ofInt_toInt]
  show ((Int32.ofInt x).toBitVec &&& (Int32.ofInt y).toBitVec).getLsbD k = _
  rw [BitVec.getLsbD_and]
theorem zB_or (x y : Int) (k : Nat) : zB (zor x y) k = (zB x k || zB y k) := by
  unfold zB zor
  rw [Int32.ofInt_toInt]
  show ((Int32.ofInt x).toBitVec ||| (Int32.ofInt y).toBitVec).getLsbD k = _
  rw [BitVec.getLsbD_or]
theorem zB_xor (x y : Int) (k : Nat) : zB (zxor x y) k = ((zB x k) ^^ (zB y k)) := by
  unfold zB zxor
  rw [Int32.ofInt_toInt]
  show ((Int32.ofInt x).toBitVec ^^^ (Int32.ofInt y).toBitVec).getLsbD k = _
  rw [BitVec.getLsbD_xor]
theorem zB_0 (k : Nat) : zB 0 k = false := by
  show (0#32).getLsbD k = false
  exact BitVec.getLsbD_zero
theorem zB_m1 {k : Nat} (h : k < 32) : zB (-1) k = true := by
  have : ∀ k, k < 32 → zB (-1) k = true := by decide +kernel
  exact this k h
theorem zB_hi (v : Int) {k : Nat} (h : 32 ≤ k) : zB v k = false := BitVec.getLsbD_of_ge _ _ h
theorem zshl_1 : ∀ p : Nat, p < 31 → zshl 1 p = ((2 ^ p : Nat) : Int) := by decide +kernel
theorem zshl_0 : ∀ p : Nat, p < 32 → zshl 0 p = 0 := by decide +kernel
theorem zB_s1n : ∀ p, p < 32 → ∀ k, k < 32 → zB (zshl 1 (p : Nat)) k = decide (k = p) := by decide +kernel
theorem zB_shl1 {p : Int} {k : Nat} (h0 : 0 ≤ p) (h1 : p < 32) (hk : k < 32) : zB (zshl 1 p) k = decide ((k : Int) = p) := by
  have := zB_s1n p.toNat (by omega) k hk
  rw [Int.toNat_of_nonneg h0] at this
  rw [this]
  congr 1
  apply propext
  omega
theorem zshamt : ∀ k, k < 32 → ((Int32.ofInt (k : Nat) &&& 31).toBitVec.smod 32).toNat = k := by decide +kernel
theorem zB_shr (v : Int) {p : Int} {k : Nat} (h0 : 0 ≤ p) (h1 : p < 32) (hk : p.toNat + k < 32) : zB (zshr v p) k = zB v (p.toNat + k) := by
  unfold zB zshr
  rw [Int32.ofInt_toInt]
  show ((Int32.ofInt v).toBitVec.sshiftRight ((Int32.ofInt p &&& 31).toBitVec.smod 32).toNat).getLsbD k = _
  have e := zshamt p.toNat (by omega)
  rw [Int.toNat_of_nonneg h0] at e
  rw [e, BitVec.getLsbD_sshiftRight, if_pos hk]
  have : ¬ (32 ≤ k) := by omega
  simp [this]
theorem zushamt : ∀ k, k < 32 → (((Int32.ofInt (k : Nat)).toUInt32 &&& Int32.toUInt32 31).toBitVec % 32).toNat = k := by decide +kernel
theorem zB_ushr (v : Int) {p : Int} {k : Nat} (h0 : 0 ≤ p) (h1 : p < 32) : zB (zushr v p) k = zB v (p.toNat + k) := by
  unfold zB zushr
  rw [Int32.ofInt_toInt]
  have e := zushamt p.toNat (by omega)
  rw [Int.toNat_of_nonneg h0] at e
  show ((Int32.ofInt v).toBitVec >>> (((Int32.ofInt p).toUInt32 &&& Int32.toUInt32 31).toBitVec % 32).toNat).getLsbD k = _
  rw [e, BitVec.getLsbD_ushiftRight]
theorem zand1_B (x : Int) : zand x 1 = if zB x 0 then 1 else 0 := by
  rw [zand_1]
  have h : zB x 0 = decide ((Int32.ofInt x).toBitVec.toNat % 2 = 1) := by
    unfold zB
    rw [BitVec.getLsbD, Nat.testBit_zero]
  rw [h]
  by_cases e : (Int32.ofInt x).toBitVec.toNat % 2 = 1
  · rw [decide_eq_true e, e]; rfl
  · rw [decide_eq_false e, show (Int32.ofInt x).toBitVec.toNat % 2 = 0 by omega]; rfl
theorem zbit_B (s : Int) {p : Int} (h0 : 0 ≤ p) (h1 : p < 32) : zbit s p = if zB s p.toNat then 1 else 0 := by
  unfold zbit
  rw [zand1_B, zB_shr s h0 h1 (by omega), Nat.add_zero]
theorem zbit_B1 {s p : Int} (h0 : 0 ≤ p) (h1 : p < 32) : zbit s p = 1 ↔ zB s p.toNat = true := by
  rw [zbit_B s h0 h1]
  split <;> simp_all
theorem zin_toI {x : Int} (h : zin x) : (Int32.ofInt x).toInt = x := zto h
/-- two numbers of the same bits are the same -/
theorem zB_ext {x y : Int} (hx : zin x) (hy : zin y) (h : ∀ k, k < 32 → zB x k = zB y k) : x = y := by
  have e : (Int32.ofInt x).toBitVec = (Int32.ofInt y).toBitVec := BitVec.eq_of_getLsbD_eq (fun k hk => h k hk)
  have e2 : (Int32.ofInt x).toInt = (Int32.ofInt y).toInt := congrArg BitVec.toInt e
  rwa [zin_toI hx, zin_toI hy] at e2
theorem zB_nat {x : Int} (h0 : 0 ≤ x) (h1 : x < 2147483648) (k : Nat) : zB x k = x.toNat.testBit k := by
  unfold zB
  have e : (Int32.ofInt x).toBitVec.toNat = x.toNat := by
    show (BitVec.ofInt 32 x).toNat = _
    rw [BitVec.toNat_ofInt]
    omega
  rw [BitVec.getLsbD, e]
/-- the bits of a small number -/
theorem zB_lt {x : Int} {n k : Nat} (h0 : 0 ≤ x) (h1 : x < 2147483648) (h : x < ((2 ^ n : Nat) : Int)) (hk : n ≤ k) : zB x k = false := by
  rw [zB_nat h0 h1]
  refine Nat.testBit_lt_two_pow (Nat.lt_of_lt_of_le (m := 2 ^ n) (by omega) (Nat.pow_le_pow_right (by decide) hk))
theorem zB_of {x : Int} {n : Nat} (hx : zin x) (hn : n < 32) (h : ∀ k, n ≤ k → k < 32 → zB x k = false) : 0 ≤ x ∧ x < ((2 ^ n : Nat) : Int) := by
  have h0 : 0 ≤ x := by
    have h31 := h 31 (by omega) (by decide)
    unfold zB at h31
    have hm : (Int32.ofInt x).toBitVec.msb = false := by rw [BitVec.msb_eq_getLsbD_last]; exact h31
    have hi := zin_toI hx
    have : (Int32.ofInt x).toBitVec.toInt = x := hi
    rw [BitVec.toInt_eq_msb_cond, hm] at this
    simp at this
    omega
  refine ⟨h0, ?_⟩
  have h1 : x < 2147483648 := hx.2
  have : x.toNat < 2 ^ n := by
    refine Nat.lt_pow_two_of_testBit _ (fun i hi => ?_)
    by_cases h32 : i < 32
    · rw [← zB_nat h0 h1]; exact h i hi h32
    · refine Nat.testBit_lt_two_pow (Nat.lt_of_lt_of_le (m := 2 ^ 32) (by omega) (Nat.pow_le_pow_right (by decide) (by omega)))
  omega
/-- a set of less than 256, one put to it -/
theorem zor_256 {s k : Int} (hs : 0 ≤ s ∧ s < 256) (hk : 0 ≤ k ∧ k < 8) : 0 ≤ zor s (zshl 1 k) ∧ zor s (zshl 1 k) < 256 := by
  refine zB_of (n := 8) (zor_in _ _) (by decide) (fun i h8 h32 => ?_)
  rw [zB_or, zB_lt (n := 8) hs.1 (by omega) hs.2 h8, zB_shl1 hk.1 (by omega) h32]
  simp
  omega
