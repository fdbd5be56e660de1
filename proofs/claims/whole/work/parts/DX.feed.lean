/-! The tape, fed. -/
/-- i bytes of a number put behind the tape -/
def zPn (S : zMem) (v i : Int) : zMem := fun o j => if o = 0 ∧ j = 1 then S 0 1 + i else if o = 1 ∧ S 0 1 ≤ j ∧ j < S 0 1 + i then zand (zushr v (24 - 8 * (j - S 0 1))) 255 else S o j
theorem zPn_0 (S : zMem) (v : Int) : zPn S v 0 = S := by
  funext o j
  unfold zPn
  by_cases h : o = 0 ∧ j = 1
  · rw [if_pos h, h.1, h.2]; omega
  · rw [if_neg h, if_neg (by omega)]
theorem zPn_t (S : zMem) (v i : Int) : zPn S v i 0 1 = S 0 1 + i := if_pos ⟨rfl, rfl⟩
theorem zPn_s (S : zMem) (v i : Int) : 0 ≤ i → zset (zset (zPn S v i) 1 (S 0 1 + i) (zand (zushr v (24 - 8 * i)) 255)) 0 1 (S 0 1 + i + 1) = zPn S v (i + 1) := by
  intro hi
  funext o j
  rw [zset_at, zset_at]
  unfold zPn
  by_cases h0 : o = 0 ∧ j = 1
  · rw [if_pos h0, if_pos h0]; omega
  · simp only [h0, if_false]
    by_cases h1 : o = 1 ∧ j = S 0 1 + i
    · rw [if_pos h1, if_pos ⟨h1.1, by omega, by omega⟩, show j - S 0 1 = i by omega]
    · rw [if_neg h1]
      by_cases h2 : o = 1 ∧ S 0 1 ≤ j ∧ j < S 0 1 + i
      · rw [if_pos h2, if_pos ⟨h2.1, h2.2.1, by omega⟩]
      · rw [if_neg h2, if_neg (by omega)]
theorem c_X11_putNumber {G : zG} {lay : zLay} {σ C0 : zMem} {nx x : Int} (hT : TopL lay x) {v : Int} (ht : 0 ≤ σ 0 1 ∧ σ 0 1 + 4 ≤ 400) : zMM G 1 KX11_putNumber [zP (x + 0), zI v] lay (tC x σ C0) nx (0, 0) (zR none lay (tC x (zPn σ v 4) (C0)) nx) := by
  refine z_met' (L := [zP (x + 0), zI v, zU]) gX11_putNumber.1 rfl rfl (Nat.le_of_ble_eq_true rfl) rfl ?_
  have hA := TpAt
  have hx := hT.1
  have hne : x + 0 ≠ -1 := by omega
  have hD := isCo.now
  have hl : ∀ i : Int, 0 ≤ i → i ≤ 4 → zW G KX11_putNumber 1 (zR none lay (tC x (zPn σ v 4) C0) nx) 3 [zP (x + 0), zI v, zI (24 - 8 * i)] [] lay (tC x (zPn σ v i) C0) nx (0, 0) := by
    refine z_up 4 ?_ ?_
    · skip
      refine z_il2 eX11_putNumber_3 ?_
      refine z_if_lt (tgt := 58) eX11_putNumber_4 rfl ⟨by omega, by omega⟩ (fun h4 => ?_) (fun h4 => (by exfalso; omega))
      refine z_return eX11_putNumber_58 rfl ?_
      first | exact ⟨rfl, rfl, rfl, rfl⟩ | exact zRb1 (by omega) | exact zRb0 (by omega) | exact zRe (by omega)
    · intro i i0 i1 ih
      have e := zPn_s σ v i i0
      have et := zPn_t σ v i
      have et2 : zset (zPn σ v i) 1 (σ 0 1 + i) (zand (zushr v (24 - 8 * i)) 255) 0 1 = σ 0 1 + i := by rw [zset_o (by decide)]; exact et
      refine z_il2 eX11_putNumber_3 ?_
      refine z_if_lt (tgt := 58) eX11_putNumber_4 rfl ⟨by omega, by omega⟩ (fun h4 => (by exfalso; omega)) (fun h4 => ?_)
      refine z_al0 eX11_putNumber_7 hne ?_
      first | refine z_tg0 (j := 1) lX11_69 eX11_putNumber_8 rfl hT hA (by decide) rfl rfl rfl ?_ | refine z_tg (j := 1) lX11_69 eX11_putNumber_8 rfl hT hA ⟨by decide, by decide⟩ rfl rfl rfl ?_
      refine z_if_lt (tgt := 52) eX11_putNumber_11 rfl ⟨by omega, by omega⟩ (fun h11 => (by exfalso; omega)) (fun h11 => ?_)
      refine z_al0 eX11_putNumber_14 hne ?_
      first | refine z_tg0 (j := 1) lX11_69 eX11_putNumber_15 rfl hT hA (by decide) rfl rfl rfl ?_ | refine z_tg (j := 1) lX11_69 eX11_putNumber_15 rfl hT hA ⟨by decide, by decide⟩ rfl rfl rfl ?_
      refine z_al0 eX11_putNumber_18 hne ?_
      first | refine z_ta0 lX11_9 eX11_putNumber_19 rfl hT hA (by decide) rfl rfl ?_ | refine z_ta lX11_9 eX11_putNumber_19 rfl hT hA ⟨by decide, by decide⟩ rfl rfl ?_
      refine z_tn eX11_putNumber_22 hT hA ⟨by decide, by decide⟩ rfl ?_
      refine z_icmp_ge (tgt := 52) eX11_putNumber_23 rfl ⟨⟨by omega, by omega⟩, ⟨by omega, by omega⟩⟩ (fun h23 => (by exfalso; omega)) (fun h23 => ?_)
      refine z_al0 eX11_putNumber_26 hne ?_
      first | refine z_ta0 lX11_9 eX11_putNumber_27 rfl hT hA (by decide) rfl rfl ?_ | refine z_ta lX11_9 eX11_putNumber_27 rfl hT hA ⟨by decide, by decide⟩ rfl rfl ?_
      refine z_al0 eX11_putNumber_30 hne ?_
      first | refine z_tg0 (j := 1) lX11_69 eX11_putNumber_31 rfl hT hA (by decide) rfl rfl rfl ?_ | refine z_tg (j := 1) lX11_69 eX11_putNumber_31 rfl hT hA ⟨by decide, by decide⟩ rfl rfl rfl ?_
      refine z_il1 eX11_putNumber_34 ?_
      refine z_il2 eX11_putNumber_35 ?_
      rw [et]
      refine z_iushr eX11_putNumber_36 ?_
      refine z_sipush eX11_putNumber_37 (by decide) ?_
      refine z_iand eX11_putNumber_40 ?_
      refine z_ts eX11_putNumber_41 hT hA ⟨by decide, by decide⟩ rfl rfl ⟨by omega, by omega⟩ ?_
      refine z_al0 eX11_putNumber_42 hne ?_
      refine z_dup eX11_putNumber_43 (Nat.ne_of_beq_eq_false rfl) ?_
      first | refine z_tg0 (j := 1) lX11_69 eX11_putNumber_44 rfl hT hA (by decide) rfl rfl rfl ?_ | refine z_tg (j := 1) lX11_69 eX11_putNumber_44 rfl hT hA ⟨by decide, by decide⟩ rfl rfl rfl ?_
      refine z_iconst eX11_putNumber_47 ?_
      rw [show zset (zPn σ v i) (0 + 1) (σ 0 1 + i) (zand (zushr v (24 - 8 * i)) 255) 0 1 = σ 0 1 + i from et2]
      refine z_iadd eX11_putNumber_48 ?_
      first | refine z_tp0 (j := 1) lX11_69 eX11_putNumber_49 rfl hT hA (by decide) rfl rfl rfl ?_ | refine z_tp (j := 1) lX11_69 eX11_putNumber_49 rfl hT hA ⟨by decide, by decide⟩ rfl rfl rfl ?_
      refine z_ii2 eX11_putNumber_52 (Nat.ne_of_beq_eq_false rfl) ?_
      refine z_goto eX11_putNumber_55 (tgt := 3) rfl ?_
      rw [show zset (zset (zPn σ v i) (0 + 1) (σ 0 1 + i) (zand (zushr v (24 - 8 * i)) 255)) 0 1 (σ 0 1 + i + 1) = zPn σ v (i + 1) from e, show 24 - 8 * i + -8 = 24 - 8 * (i + 1) by omega]; exact ih
  refine z_bipush eX11_putNumber_0 (by decide) ?_
  refine z_is2 eX11_putNumber_2 (Nat.ne_of_beq_eq_false rfl) ?_
  have h0 := hl 0 (by decide) (by decide)
  rw [zPn_0] at h0
  exact h0
def zFdC (σ : zMem) (a c d e f : Int) : zMem := zPn (zPn (zPn (zPn (zPn σ a 4) c 4) d 4) e 4) f 4
theorem c_X11_feed {G : zG} {lay : zLay} {σ C0 : zMem} {nx x : Int} (hT : TopL lay x) {a c d e f : Int} (ht : 0 ≤ σ 0 1 ∧ σ 0 1 ≤ 400) : zMM G 2 KX11_feed [zP (x + 0), zI a, zI c, zI d, zI e, zI f] lay (tC x σ C0) nx (0, 0) (zR (some (zI (if 400 < σ 0 1 + 20 then -1 else σ 0 1 + 20))) lay (tC x ((if 400 < σ 0 1 + 20 then σ else zFdC σ a c d e f)) (C0)) nx) := by
  refine z_met' (L := [zP (x + 0), zI a, zI c, zI d, zI e, zI f]) gX11_feed.1 rfl rfl (Nat.le_of_ble_eq_true rfl) rfl ?_
  have hA := TpAt
  have hx := hT.1
  have hne : x + 0 ≠ -1 := by omega
  have hD := isCo.now
  have e1 := zPn_t σ a 4
  have e2 := zPn_t (zPn σ a 4) c 4
  have e3 := zPn_t (zPn (zPn σ a 4) c 4) d 4
  have e4 := zPn_t (zPn (zPn (zPn σ a 4) c 4) d 4) e 4
  have e5 := zPn_t (zPn (zPn (zPn (zPn σ a 4) c 4) d 4) e 4) f 4
  refine z_al0 eX11_feed_0 hne ?_
  first | refine z_tg0 (j := 1) lX11_69 eX11_feed_1 rfl hT hA (by decide) rfl rfl rfl ?_ | refine z_tg (j := 1) lX11_69 eX11_feed_1 rfl hT hA ⟨by decide, by decide⟩ rfl rfl rfl ?_
  refine z_bipush eX11_feed_4 (by decide) ?_
  refine z_iadd eX11_feed_6 ?_
  refine z_sipush eX11_feed_7 (by decide) ?_
  refine z_icmp_le (tgt := 15) eX11_feed_10 rfl ⟨⟨by omega, by omega⟩, ⟨by omega, by omega⟩⟩ (fun h10 => ?_) (fun h10 => ?_)
  · refine z_al0 eX11_feed_15 hne ?_
    refine z_il1 eX11_feed_16 ?_
    refine z_V1v eX11_feed_17 vX11_72 rfl rfl (Nat.le_of_ble_eq_true rfl) (Nat.le_of_ble_eq_true rfl) ((hA).L0 hT (by decide)) (c_X11_putNumber hT ⟨by omega, by omega⟩) ?_
    refine z_al0 eX11_feed_20 hne ?_
    refine z_il2 eX11_feed_21 ?_
    refine z_V1v eX11_feed_22 vX11_72 rfl rfl (Nat.le_of_ble_eq_true rfl) (Nat.le_of_ble_eq_true rfl) ((hA).L0 hT (by decide)) (c_X11_putNumber hT ⟨by omega, by omega⟩) ?_
    refine z_al0 eX11_feed_25 hne ?_
    refine z_il3 eX11_feed_26 ?_
    refine z_V1v eX11_feed_27 vX11_72 rfl rfl (Nat.le_of_ble_eq_true rfl) (Nat.le_of_ble_eq_true rfl) ((hA).L0 hT (by decide)) (c_X11_putNumber hT ⟨by omega, by omega⟩) ?_
    refine z_al0 eX11_feed_30 hne ?_
    refine z_il4 eX11_feed_31 ?_
    refine z_V1v eX11_feed_33 vX11_72 rfl rfl (Nat.le_of_ble_eq_true rfl) (Nat.le_of_ble_eq_true rfl) ((hA).L0 hT (by decide)) (c_X11_putNumber hT ⟨by omega, by omega⟩) ?_
    refine z_al0 eX11_feed_36 hne ?_
    refine z_il5 eX11_feed_37 ?_
    refine z_V1v eX11_feed_39 vX11_72 rfl rfl (Nat.le_of_ble_eq_true rfl) (Nat.le_of_ble_eq_true rfl) ((hA).L0 hT (by decide)) (c_X11_putNumber hT ⟨by omega, by omega⟩) ?_
    refine z_al0 eX11_feed_42 hne ?_
    first | refine z_tg0 (j := 1) lX11_69 eX11_feed_43 rfl hT hA (by decide) rfl rfl rfl ?_ | refine z_tg (j := 1) lX11_69 eX11_feed_43 rfl hT hA ⟨by decide, by decide⟩ rfl rfl rfl ?_
    refine z_ireturn eX11_feed_46 rfl ?_
    rw [e5, if_neg (by omega), if_neg (by omega), show zPn (zPn (zPn (zPn σ a 4) c 4) d 4) e 4 0 1 + 4 = σ 0 1 + 20 by omega]; exact ⟨rfl, rfl, rfl, rfl⟩
  · refine z_iconst eX11_feed_13 ?_
    refine z_ireturn eX11_feed_14 rfl ?_
    rw [if_pos (by omega), if_pos (by omega)]; exact ⟨rfl, rfl, rfl, rfl⟩
theorem zPn_o {S : zMem} {v i o : Int} (h : o ≠ 0) (h1 : o ≠ 1) : zPn S v i o = S o := by
  funext j
  unfold zPn
  rw [if_neg (by omega), if_neg (by omega)]
theorem zPn_f {S : zMem} {v i j : Int} (h : j ≠ 1) : zPn S v i 0 j = S 0 j := by
  unfold zPn
  rw [if_neg (by omega), if_neg (by omega)]
theorem zFdC_o {σ : zMem} {a c d e f o : Int} (h : o ≠ 0) (h1 : o ≠ 1) : zFdC σ a c d e f o = σ o := by
  unfold zFdC
  rw [zPn_o h h1, zPn_o h h1, zPn_o h h1, zPn_o h h1, zPn_o h h1]
theorem zFdC_f {σ : zMem} {a c d e f j : Int} (h : j ≠ 1) : zFdC σ a c d e f 0 j = σ 0 j := by
  unfold zFdC
  rw [zPn_f h, zPn_f h, zPn_f h, zPn_f h, zPn_f h]
theorem zFdC_t (σ : zMem) (a c d e f : Int) : zFdC σ a c d e f 0 1 = σ 0 1 + 20 := by
  unfold zFdC
  rw [zPn_t, zPn_t, zPn_t, zPn_t, zPn_t]
  omega
theorem zFdC_1 (σ : zMem) (a c d e f : Int) : zFdC σ a c d e f 1 = fun j => if σ 0 1 ≤ j ∧ j < σ 0 1 + 20 then qbyte a c d e f (j - σ 0 1) else σ 1 j := by
  have h : ∀ (S : zMem) (v j : Int), zPn S v 4 1 j = if S 0 1 ≤ j ∧ j < S 0 1 + 4 then zand (zushr v (24 - 8 * (j - S 0 1))) 255 else S 1 j := by
    intro S v j
    unfold zPn
    rw [if_neg (by omega)]
    by_cases z : S 0 1 ≤ j ∧ j < S 0 1 + 4
    · rw [if_pos z, if_pos ⟨rfl, z⟩]
    · rw [if_neg z, if_neg (fun y => z y.2)]
  funext j
  unfold zFdC
  rw [h, h, h, h, h, zPn_t, zPn_t, zPn_t, zPn_t]
  unfold qbyte
  generalize σ 0 1 = t
  by_cases z : t ≤ j ∧ j < t + 20
  · rw [if_pos z]
    by_cases z5 : t + 16 ≤ j
    · rw [if_pos (show t + 4 + 4 + 4 + 4 ≤ j ∧ j < t + 4 + 4 + 4 + 4 + 4 by omega), if_neg (show ¬ j - t < 4 by omega), if_neg (show ¬ j - t < 8 by omega), if_neg (show ¬ j - t < 12 by omega), if_neg (show ¬ j - t < 16 by omega), show (j - t) % 4 = j - (t + 4 + 4 + 4 + 4) by omega]
    · rw [if_neg (show ¬ (t + 4 + 4 + 4 + 4 ≤ j ∧ j < t + 4 + 4 + 4 + 4 + 4) by omega)]
      by_cases z4 : t + 12 ≤ j
      · rw [if_pos (show t + 4 + 4 + 4 ≤ j ∧ j < t + 4 + 4 + 4 + 4 by omega), if_neg (show ¬ j - t < 4 by omega), if_neg (show ¬ j - t < 8 by omega), if_neg (show ¬ j - t < 12 by omega), if_pos (show j - t < 16 by omega), show (j - t) % 4 = j - (t + 4 + 4 + 4) by omega]
      · rw [if_neg (show ¬ (t + 4 + 4 + 4 ≤ j ∧ j < t + 4 + 4 + 4 + 4) by omega)]
        by_cases z3 : t + 8 ≤ j
        · rw [if_pos (show t + 4 + 4 ≤ j ∧ j < t + 4 + 4 + 4 by omega), if_neg (show ¬ j - t < 4 by omega), if_neg (show ¬ j - t < 8 by omega), if_pos (show j - t < 12 by omega), show (j - t) % 4 = j - (t + 4 + 4) by omega]
        · rw [if_neg (show ¬ (t + 4 + 4 ≤ j ∧ j < t + 4 + 4 + 4) by omega)]
          by_cases z2 : t + 4 ≤ j
          · rw [if_pos (show t + 4 ≤ j ∧ j < t + 4 + 4 by omega), if_neg (show ¬ j - t < 4 by omega), if_pos (show j - t < 8 by omega), show (j - t) % 4 = j - (t + 4) by omega]
          · rw [if_neg (show ¬ (t + 4 ≤ j ∧ j < t + 4 + 4) by omega), if_pos (show t ≤ j ∧ j < t + 4 by omega), if_pos (show j - t < 4 by omega), show (j - t) % 4 = j - t by omega]
  · rw [if_neg z, if_neg (show ¬ (t + 4 + 4 + 4 + 4 ≤ j ∧ j < t + 4 + 4 + 4 + 4 + 4) by omega), if_neg (show ¬ (t + 4 + 4 + 4 ≤ j ∧ j < t + 4 + 4 + 4 + 4) by omega), if_neg (show ¬ (t + 4 + 4 ≤ j ∧ j < t + 4 + 4 + 4) by omega), if_neg (show ¬ (t + 4 ≤ j ∧ j < t + 4 + 4) by omega), if_neg (show ¬ (t ≤ j ∧ j < t + 4) by omega)]
