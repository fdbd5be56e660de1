/-! An hour passes. -/
theorem zM_s {σ : zMem} {M : Int → Int} {j v : Int} : zset (zM σ M) 1 j v = zM σ (zput M j v) := by
  funext o i
  unfold zset zM zput
  by_cases h : o = 1
  · subst h; simp
  · simp [h]
theorem zM_s0 {σ : zMem} {j v : Int} : zset σ 1 j v = zM σ (zput (σ 1) j v) := by
  rw [← zM_s, zM_self]
theorem zM_n {σ : zMem} {M : Int → Int} {j : Int} : zM σ M 0 j = σ 0 j := rfl
theorem zM_p {σ : zMem} {M : Int → Int} {j v : Int} : zset (zM σ M) 0 j v = zM (zset σ 0 j v) M := by
  funext o i
  unfold zset zM
  by_cases h : o = 1
  · subst h; simp
  · simp [h]
theorem zScr.m {σ s : zMem} (h : zScr σ s) (M : Int → Int) : zScr (zM σ M) (zM s M) := by
  rw [← zRow_zM, ← zRow_zM]
  exact h.row (by decide) (by decide)
theorem zJs.m {σ : zMem} (h : zJs σ) (M : Int → Int) : zJs (zM σ M) := h
theorem zOL.put {M : Int → Int} {k v : Int} (h : zOL M) (hk : k < 13 ∨ 38 ≤ k) (hk2 : k < 426) (hb : 0 ≤ k → k < 426 → zFree k ∨ ((zBd k).1 ≤ v ∧ v ≤ (zBd k).2)) : zOL (zput M k v) :=
  ⟨h.1.put hk hb, fun i i0 i1 => by rw [zput_ne (by omega)]; exact h.2 i i0 i1⟩
theorem z_dnto {P : Int → Prop} (lo N : Int) (hend : P (lo - 1)) (hstep : ∀ t : Int, lo ≤ t → t < N → P (t - 1) → P t) : ∀ t : Int, lo - 1 ≤ t → t < N → P t := by
  have h := z_down (P := fun t => P (t + lo)) (by rw [show (-1 : Int) + lo = lo - 1 by omega]; exact hend) (N - lo) (fun t h0 h1 h2 => hstep (t + lo) (by omega) (by omega) (by rw [show t + lo - 1 = t - 1 + lo by omega]; exact h2))
  intro t h0 h1
  have := h (t - lo) (by omega) (by omega)
  rwa [show t - lo + lo = t by omega] at this
theorem zand15_bd (x : Int) : 0 ≤ zand x 32767 ∧ zand x 32767 ≤ 32767 := by
  unfold zand
  have h : ((Int32.ofInt x).toBitVec &&& (32767#32)).toNat ≤ 32767 := by
    rw [BitVec.toNat_and]
    exact Nat.and_le_right
  show 0 ≤ ((Int32.ofInt x).toBitVec &&& (32767#32)).toInt ∧ ((Int32.ofInt x).toBitVec &&& (32767#32)).toInt ≤ 32767
  rw [BitVec.toInt_eq_toNat_of_lt (by omega)]
  omega
def qSeed (M : Int → Int) : Int → Int := zput M 12 (1103515245 * M 12 + 12345)
def qDrawV (M : Int → Int) (n : Int) : Int := zand (zushr (1103515245 * M 12 + 12345) 16) 32767 % n
theorem m_X12_draw {G : zG} {lay : zLay} {σ C0 : zMem} {nx x : Int} {n : Int} (hR : RefL lay x) (hn : 0 < n ∧ n ≤ 999) : zMM G 1 KX12_draw [zP x, zI n] lay (rC x σ C0) nx (0, 0) (zR (some (zI (qDrawV (σ 1) n))) lay (rC x (zM σ (qSeed (σ 1))) C0) nx) := by
  refine z_met' (L := [zP x, zI n]) gX12_draw.1 rfl rfl (Nat.le_of_ble_eq_true rfl) rfl ?_
  have hb := zand15_bd (zushr (1103515245 * σ 1 12 + 12345) 16)
  unfold qDrawV qSeed
  refine z_al0 eX12_draw_0 hR.ne ?_
  refine z_ra lX12_7 eX12_draw_1 rfl hR rfl ?_
  try rw [zM_n]
  refine z_bipush eX12_draw_4 (by decide) ?_
  refine z_ldcw eX12_draw_6 kX12_298 ?_
  refine z_al0 eX12_draw_9 hR.ne ?_
  refine z_ra lX12_7 eX12_draw_10 rfl hR rfl ?_
  try rw [zM_n]
  refine z_bipush eX12_draw_13 (by decide) ?_
  refine z_rl eX12_draw_15 hR (by decide) rfl rfl ⟨by omega, by omega⟩ ?_
  try rw [zM_1]
  refine z_imul eX12_draw_16 ?_
  refine z_sipush eX12_draw_17 (by decide) ?_
  refine z_iadd eX12_draw_20 ?_
  refine z_rs eX12_draw_21 hR (by decide) rfl rfl ⟨by omega, by omega⟩ ?_
  first | rw [zM_s] | rw [zM_s0] | skip
  refine z_al0 eX12_draw_22 hR.ne ?_
  refine z_ra lX12_7 eX12_draw_23 rfl hR rfl ?_
  try rw [zM_n]
  refine z_bipush eX12_draw_26 (by decide) ?_
  refine z_rl eX12_draw_28 hR (by decide) rfl rfl ⟨by omega, by omega⟩ ?_
  try rw [zM_1]
  rw [zput_eq]
  refine z_bipush eX12_draw_29 (by decide) ?_
  refine z_iushr eX12_draw_31 ?_
  refine z_sipush eX12_draw_32 (by decide) ?_
  refine z_iand eX12_draw_35 ?_
  refine z_il1 eX12_draw_36 ?_
  refine z_irem eX12_draw_37 ⟨by omega, by omega, by omega, by omega⟩ ?_
  refine z_ireturn eX12_draw_38 rfl ?_
  first | exact ⟨rfl, rfl, rfl, rfl⟩ | exact zRb1 (by omega) | exact zRb0 (by omega) | exact zRe (by omega)
def qShf (M : Int → Int) (t : Int) : Int → Int := fun j => if 126 + t < j ∧ j < 426 then M (j - 5) else M j
theorem qShf_s (M : Int → Int) {t : Int} (h0 : 5 ≤ t) (h1 : t < 300) : zput (qShf M t) (126 + t) (qShf M t (126 + t - 5)) = qShf M (t - 1) := by
  have e : qShf M t (126 + t - 5) = M (126 + t - 5) := if_neg (by omega)
  rw [e]
  funext j
  unfold qShf zput
  by_cases hj : j = 126 + t
  · rw [if_pos hj, if_pos (by omega), hj]
  · rw [if_neg hj]
    dsimp only
    by_cases h2 : 126 + t < j ∧ j < 426
    · rw [if_pos h2, if_pos (by omega)]
    · rw [if_neg h2, if_neg (by omega)]
theorem qShf_0 (M : Int → Int) : qShf M 299 = M := by funext j; exact if_neg (by omega)
theorem qShf_lo {M : Int → Int} {t j : Int} (h : j ≤ 126 + t) : qShf M t j = M j := if_neg (by omega)
/-- a row of the log -/
def qLog (M : Int → Int) (k : Int) : Int → Int := zput (zput (zput (zput (zput (zput (qShf M 4) 126 (M 7)) 127 (M 6)) 128 k) 129 (M 5)) 130 (M (74 + 5 * k + 4))) 11 (if 60 < M 11 + 1 then 60 else M 11 + 1)
theorem m_X12_logs {G : zG} {lay : zLay} {σ C0 : zMem} {nx x : Int} {k : Int} (hR : RefL lay x) (hk : 0 ≤ k ∧ k < 8) (h11 : 0 ≤ σ 1 11 ∧ σ 1 11 ≤ 60) : zMM G 2 KX12_logs [zP x, zI k] lay (rC x σ C0) nx (0, 0) (zR none lay (rC x (zM σ (qLog (σ 1) k)) C0) nx) := by
  refine z_met' (L := [zP x, zI k, zU]) gX12_logs.1 rfl rfl (Nat.le_of_ble_eq_true rfl) rfl ?_
  have hl : ∀ t : Int, 4 ≤ t → t < 300 → zW G KX12_logs 2 (zR none lay (rC x (zM σ (qLog (σ 1) k)) C0) nx) 4 [zP x, zI k, zI t] [] lay (rC x (zM σ (qShf (σ 1) t)) C0) nx (0, 0) := by
    refine z_dnto 5 300 ?_ ?_
    · unfold qLog
      refine z_il2 eX12_logs_4 ?_
      refine z_iconst eX12_logs_5 ?_
      refine z_icmp_lt (tgt := 35) eX12_logs_6 rfl ⟨⟨by omega, by omega⟩, ⟨by omega, by omega⟩⟩ (fun h6 => ?_) (fun h6 => (by exfalso; omega))
      refine z_al0 eX12_logs_35 hR.ne ?_
      refine z_ra lX12_7 eX12_logs_36 rfl hR rfl ?_
      try rw [zM_n]
      refine z_bipush eX12_logs_39 (by decide) ?_
      refine z_al0 eX12_logs_41 hR.ne ?_
      refine z_ra lX12_7 eX12_logs_42 rfl hR rfl ?_
      try rw [zM_n]
      refine z_bipush eX12_logs_45 (by decide) ?_
      refine z_rl eX12_logs_47 hR (by decide) rfl rfl ⟨by omega, by omega⟩ ?_
      try rw [zM_1]
      rw [show (5 : Int) - 1 = 4 by decide, qShf_lo (by decide)]
      refine z_rs eX12_logs_48 hR (by decide) rfl rfl ⟨by omega, by omega⟩ ?_
      first | rw [zM_s] | rw [zM_s0] | skip
      refine z_al0 eX12_logs_49 hR.ne ?_
      refine z_ra lX12_7 eX12_logs_50 rfl hR rfl ?_
      try rw [zM_n]
      refine z_bipush eX12_logs_53 (by decide) ?_
      refine z_al0 eX12_logs_55 hR.ne ?_
      refine z_ra lX12_7 eX12_logs_56 rfl hR rfl ?_
      try rw [zM_n]
      refine z_bipush eX12_logs_59 (by decide) ?_
      refine z_rl eX12_logs_61 hR (by decide) rfl rfl ⟨by omega, by omega⟩ ?_
      try rw [zM_1]
      rw [zput_ne (by decide), qShf_lo (by decide)]
      refine z_rs eX12_logs_62 hR (by decide) rfl rfl ⟨by omega, by omega⟩ ?_
      first | rw [zM_s] | rw [zM_s0] | skip
      refine z_al0 eX12_logs_63 hR.ne ?_
      refine z_ra lX12_7 eX12_logs_64 rfl hR rfl ?_
      try rw [zM_n]
      refine z_sipush eX12_logs_67 (by decide) ?_
      refine z_il1 eX12_logs_70 ?_
      refine z_rs eX12_logs_71 hR (by decide) rfl rfl ⟨by omega, by omega⟩ ?_
      first | rw [zM_s] | rw [zM_s0] | skip
      refine z_al0 eX12_logs_72 hR.ne ?_
      refine z_ra lX12_7 eX12_logs_73 rfl hR rfl ?_
      try rw [zM_n]
      refine z_sipush eX12_logs_76 (by decide) ?_
      refine z_al0 eX12_logs_79 hR.ne ?_
      refine z_ra lX12_7 eX12_logs_80 rfl hR rfl ?_
      try rw [zM_n]
      refine z_iconst eX12_logs_83 ?_
      refine z_rl eX12_logs_84 hR (by decide) rfl rfl ⟨by omega, by omega⟩ ?_
      try rw [zM_1]
      rw [zput_ne (by decide), zput_ne (by decide), zput_ne (by decide), qShf_lo (by decide)]
      refine z_rs eX12_logs_85 hR (by decide) rfl rfl ⟨by omega, by omega⟩ ?_
      first | rw [zM_s] | rw [zM_s0] | skip
      refine z_al0 eX12_logs_86 hR.ne ?_
      refine z_ra lX12_7 eX12_logs_87 rfl hR rfl ?_
      try rw [zM_n]
      refine z_sipush eX12_logs_90 (by decide) ?_
      refine z_al0 eX12_logs_93 hR.ne ?_
      refine z_il1 eX12_logs_94 ?_
      refine z_iconst eX12_logs_95 ?_
      refine z_V2 eX12_logs_96 vX12_55 rfl rfl (Nat.le_of_ble_eq_true rfl) (Nat.le_of_ble_eq_true rfl) hR.x (m_X12_ofMotion hR ⟨by omega, by omega⟩ (by decide)) ?_
      try rw [zM_1]
      rw [zput_ne (by omega), zput_ne (by omega), zput_ne (by omega), zput_ne (by omega), qShf_lo (by omega)]
      refine z_rs eX12_logs_99 hR (by decide) rfl rfl ⟨by omega, by omega⟩ ?_
      first | rw [zM_s] | rw [zM_s0] | skip
      refine z_al0 eX12_logs_100 hR.ne ?_
      refine z_ra lX12_7 eX12_logs_101 rfl hR rfl ?_
      try rw [zM_n]
      refine z_bipush eX12_logs_104 (by decide) ?_
      refine z_bipush eX12_logs_106 (by decide) ?_
      refine z_al0 eX12_logs_108 hR.ne ?_
      refine z_ra lX12_7 eX12_logs_109 rfl hR rfl ?_
      try rw [zM_n]
      refine z_bipush eX12_logs_112 (by decide) ?_
      refine z_rl eX12_logs_114 hR (by decide) rfl rfl ⟨by omega, by omega⟩ ?_
      try rw [zM_1]
      rw [zput_ne (by decide), zput_ne (by decide), zput_ne (by decide), zput_ne (by decide), zput_ne (by decide), qShf_lo (by decide)]
      refine z_iconst eX12_logs_115 ?_
      refine z_iadd eX12_logs_116 ?_
      refine z_S2 eX12_logs_117 vX12_271 rfl rfl (Nat.le_of_ble_eq_true rfl) (Nat.le_of_ble_eq_true rfl) (m_X12_lesser ⟨⟨by omega, by omega⟩, ⟨by omega, by omega⟩⟩) ?_
      try rw [zM_1]
      refine z_rs eX12_logs_120 hR (by decide) rfl rfl ⟨by omega, by omega⟩ ?_
      first | rw [zM_s] | rw [zM_s0] | skip
      refine z_return eX12_logs_121 rfl ?_
      exact ⟨rfl, rfl, rfl, rfl⟩
    · intro t h0 h1 ih
      refine z_il2 eX12_logs_4 ?_
      refine z_iconst eX12_logs_5 ?_
      refine z_icmp_lt (tgt := 35) eX12_logs_6 rfl ⟨⟨by omega, by omega⟩, ⟨by omega, by omega⟩⟩ (fun h6 => (by exfalso; omega)) (fun h6 => ?_)
      refine z_al0 eX12_logs_9 hR.ne ?_
      refine z_ra lX12_7 eX12_logs_10 rfl hR rfl ?_
      try rw [zM_n]
      refine z_bipush eX12_logs_13 (by decide) ?_
      refine z_il2 eX12_logs_15 ?_
      refine z_iadd eX12_logs_16 ?_
      refine z_al0 eX12_logs_17 hR.ne ?_
      refine z_ra lX12_7 eX12_logs_18 rfl hR rfl ?_
      try rw [zM_n]
      refine z_bipush eX12_logs_21 (by decide) ?_
      refine z_il2 eX12_logs_23 ?_
      refine z_iadd eX12_logs_24 ?_
      refine z_iconst eX12_logs_25 ?_
      refine z_isub eX12_logs_26 ?_
      refine z_rl eX12_logs_27 hR (by decide) rfl rfl ⟨by omega, by omega⟩ ?_
      try rw [zM_1]
      refine z_rs eX12_logs_28 hR (by decide) rfl rfl ⟨by omega, by omega⟩ ?_
      first | rw [zM_s] | rw [zM_s0] | skip
      rw [qShf_s _ h0 h1]
      refine z_ii2 eX12_logs_29 (Nat.ne_of_beq_eq_false rfl) ?_
      refine z_goto eX12_logs_32 (tgt := 4) rfl ?_
      exact ih
  have h0 := hl 299 (by decide) (by decide)
  rw [qShf_0, zM_self] at h0
  refine z_sipush eX12_logs_0 (by decide) ?_
  refine z_is2 eX12_logs_3 (Nat.ne_of_beq_eq_false rfl) ?_
  exact h0
theorem qLog_OL {M : Int → Int} {k : Int} (h : zOL M) (hk : 0 ≤ k ∧ k < 8) : zOL (qLog M k) := by
  have hs : zOL (qShf M 4) := by
    refine ⟨⟨fun j h0 h1 => ?_, fun s h0 h1 => ?_⟩, fun i i0 i1 => ?_⟩
    · by_cases hj : 126 + 4 < j
      · have h9 := h.1.1.at (lo := 0) (hi := 9999) (j := j - 5) (by have := zBd_G (i := j - 5 - 126) ⟨by omega, by omega⟩; rwa [show 126 + (j - 5 - 126) = j - 5 by omega] at this) ⟨by omega, by omega⟩ (by unfold zFree; omega)
        have e : zBd j = (0, 9999) := by have := zBd_G (i := j - 126) ⟨by omega, by omega⟩; rwa [show 126 + (j - 126) = j by omega] at this
        rw [e, show qShf M 4 j = M (j - 5) from if_pos ⟨hj, h1⟩]
        exact Or.inr h9
      · rw [qShf_lo (by omega)]
        exact h.1.1 j h0 h1
    · rw [show zsum (fun t => qShf M 4 (13 + 5 * s + t)) 5 = zsum (fun t => M (13 + 5 * s + t)) 5 from zsum_congr (fun t t0 t1 => qShf_lo (by omega))]
      exact h.1.2 s h0 h1
    · rw [show qShf M 4 (426 + i) = M (426 + i) from if_neg (by omega)]
      exact h.2 i i0 i1
  have h5 := h.1.1.s 5 rfl (by omega)
  have h6 := h.1.1.s 6 rfl (by omega)
  have h7 := h.1.1.s 7 rfl (by omega)
  have h11 := h.1.1.s 11 rfl (by omega)
  have hV := h.1.1.V hk
  unfold qLog
  refine zOL.put (zOL.put (zOL.put (zOL.put (zOL.put (zOL.put hs (by omega) (by omega) ?_) (by omega) (by omega) ?_) (by omega) (by omega) ?_) (by omega) (by omega) ?_) (by omega) (by omega) ?_) (by omega) (by omega) ?_
  · intro _ _; exact Or.inr ⟨h7.1, h7.2⟩
  · intro _ _; exact Or.inr ⟨h6.1, by show M 6 ≤ 9999; omega⟩
  · intro _ _; exact Or.inr ⟨hk.1, by show k ≤ 9999; omega⟩
  · intro _ _; exact Or.inr ⟨h5.1, by show M 5 ≤ 9999; omega⟩
  · intro _ _; exact Or.inr ⟨hV.2.2.2.1, by show M (74 + 5 * k + 4) ≤ 9999; omega⟩
  · intro _ _; exact Or.inr (by show 0 ≤ (if 60 < M 11 + 1 then 60 else M 11 + 1) ∧ (if 60 < M 11 + 1 then 60 else M 11 + 1) ≤ 60; split <;> omega)
