/-! The log. -/
/-- the rows at b are those of the row M -/
def LoR (σ : zMem) (b : Int) (M : Int → Int) : Prop := σ b 0 = M 11 ∧ ∀ a w, 0 ≤ a → a < M 11 → 0 ≤ w → w < 5 → σ (b + 1) ((M 11 - 1 - a) * 5 + w) = M (126 + 5 * a + w)
theorem LoR.out {σ s : zMem} {b : Int} {M : Int → Int} (h : LoR σ b M) (h0 : s b = σ b) (h1 : s (b + 1) = σ (b + 1)) : LoR s b M := by
  unfold LoR
  rw [h0, h1]
  exact h
theorem zInv.m11 {M : Int → Int} (h : zInv M) : 0 ≤ M 11 ∧ M 11 ≤ 60 := h.s 11 rfl (by omega)
theorem c_X5_valueOf {G : zG} {lay : zLay} {σ C0 : zMem} {nx x b : Int} (hT : TopL lay x) {a w : Int} {M : Int → Int} (hA : LoAt b) (hW : LoR σ b M) (hI : zInv M) (ha : zin a) (hw : zin w) : zMM G 1 KX5_valueOf [zP (x + b), zI a, zI w] lay (tC x σ C0) nx (0, 0) (zR (some (zI (if (0 ≤ a ∧ a < M 11) ∧ 0 ≤ w ∧ w < 5 then M (126 + 5 * a + w) else -1))) lay (tC x (σ) C0) nx) := by
  refine z_met' (L := [zP (x + b), zI a, zI w]) gX5_valueOf.1 rfl rfl (Nat.le_of_ble_eq_true rfl) rfl ?_
  have hb0 := hA.b0 (by decide)
  have hne : x + b ≠ -1 := by have := hT.1; omega
  have hm := hI.m11
  unfold zin at ha hw
  refine z_il1 eX5_valueOf_0 ?_
  refine z_if_lt (tgt := 21) eX5_valueOf_1 rfl ⟨by omega, by omega⟩ (fun h1 => ?_) (fun h1 => ?_)
  · refine z_iconst eX5_valueOf_21 ?_
    refine z_ireturn eX5_valueOf_22 rfl ?_
    first | (rw [if_pos (by omega)]; exact ⟨rfl, rfl, rfl, rfl⟩) | (rw [if_neg (by omega)]; exact ⟨rfl, rfl, rfl, rfl⟩) | fail
  · refine z_il1 eX5_valueOf_4 ?_
    refine z_al0 eX5_valueOf_5 hne ?_
    first | refine z_tg0 (j := 0) lX5_15 eX5_valueOf_6 rfl hT hA (by decide) rfl rfl rfl ?_ | refine z_tg (j := 0) lX5_15 eX5_valueOf_6 rfl hT hA ⟨by decide, by decide⟩ rfl rfl rfl ?_
    rw [hW.1]
    refine z_icmp_ge (tgt := 21) eX5_valueOf_9 rfl ⟨⟨by omega, by omega⟩, ⟨by omega, by omega⟩⟩ (fun h9 => ?_) (fun h9 => ?_)
    · refine z_iconst eX5_valueOf_21 ?_
      refine z_ireturn eX5_valueOf_22 rfl ?_
      first | (rw [if_pos (by omega)]; exact ⟨rfl, rfl, rfl, rfl⟩) | (rw [if_neg (by omega)]; exact ⟨rfl, rfl, rfl, rfl⟩) | fail
    · refine z_il2 eX5_valueOf_12 ?_
      refine z_if_lt (tgt := 21) eX5_valueOf_13 rfl ⟨by omega, by omega⟩ (fun h13 => ?_) (fun h13 => ?_)
      · refine z_iconst eX5_valueOf_21 ?_
        refine z_ireturn eX5_valueOf_22 rfl ?_
        first | (rw [if_pos (by omega)]; exact ⟨rfl, rfl, rfl, rfl⟩) | (rw [if_neg (by omega)]; exact ⟨rfl, rfl, rfl, rfl⟩) | fail
      · refine z_il2 eX5_valueOf_16 ?_
        refine z_iconst eX5_valueOf_17 ?_
        refine z_icmp_lt (tgt := 23) eX5_valueOf_18 rfl ⟨⟨by omega, by omega⟩, ⟨by omega, by omega⟩⟩ (fun h18 => ?_) (fun h18 => ?_)
        · refine z_al0 eX5_valueOf_23 hne ?_
          first | refine z_ta0 lX5_11 eX5_valueOf_24 rfl hT hA (by decide) rfl rfl ?_ | refine z_ta lX5_11 eX5_valueOf_24 rfl hT hA ⟨by decide, by decide⟩ rfl rfl ?_
          refine z_al0 eX5_valueOf_27 hne ?_
          first | refine z_tg0 (j := 0) lX5_15 eX5_valueOf_28 rfl hT hA (by decide) rfl rfl rfl ?_ | refine z_tg (j := 0) lX5_15 eX5_valueOf_28 rfl hT hA ⟨by decide, by decide⟩ rfl rfl rfl ?_
          rw [hW.1]
          refine z_iconst eX5_valueOf_31 ?_
          refine z_isub eX5_valueOf_32 ?_
          refine z_il1 eX5_valueOf_33 ?_
          refine z_isub eX5_valueOf_34 ?_
          refine z_iconst eX5_valueOf_35 ?_
          refine z_imul eX5_valueOf_36 ?_
          refine z_il2 eX5_valueOf_37 ?_
          refine z_iadd eX5_valueOf_38 ?_
          refine z_tl eX5_valueOf_39 hT hA ⟨by decide, by decide⟩ rfl rfl ⟨by omega, by omega⟩ ?_
          rw [hW.2 a w (by omega) (by omega) (by omega) (by omega)]
          refine z_ireturn eX5_valueOf_40 rfl ?_
          first | (rw [if_pos (by omega)]; exact ⟨rfl, rfl, rfl, rfl⟩) | (rw [if_neg (by omega)]; exact ⟨rfl, rfl, rfl, rfl⟩) | fail
        · refine z_iconst eX5_valueOf_21 ?_
          refine z_ireturn eX5_valueOf_22 rfl ?_
          first | (rw [if_pos (by omega)]; exact ⟨rfl, rfl, rfl, rfl⟩) | (rw [if_neg (by omega)]; exact ⟨rfl, rfl, rfl, rfl⟩) | fail
theorem c_X5_takeRows {G : zG} {lay : zLay} {σ C0 : zMem} {nx x b : Int} (hT : TopL lay x) {b2 : Int} {M : Int → Int} (hA : LoAt b) (hB : LoAt b2) (hd : b + 2 ≤ b2 ∨ b2 + 2 ≤ b) (hW : LoR σ b2 M) (hI : zInv M) : zMM G 2 KX5_takeRows [zP (x + b), zP (x + b2)] lay (tC x σ C0) nx (0, 0) (zZ' none (fun s => zOut b 2 σ s ∧ LoR s b M) lay C0 nx x) := by
  refine z_met' (L := [zP (x + b), zP (x + b2)]) gX5_takeRows.1 rfl rfl (Nat.le_of_ble_eq_true rfl) rfl ?_
  have hb0 := hA.b0 (by decide)
  have hb2 := hB.b0 (by decide)
  have hx := hT.1
  have hm := hI.m11
  have hne : x + b ≠ -1 := by omega
  refine z_al0 eX5_takeRows_0 hne ?_
  refine z_al1 eX5_takeRows_1 (by omega) ?_
  first | refine z_tg0 (j := 0) lX5_15 eX5_takeRows_2 rfl hT hB (by decide) rfl rfl rfl ?_ | refine z_tg (j := 0) lX5_15 eX5_takeRows_2 rfl hT hB ⟨by decide, by decide⟩ rfl rfl rfl ?_
  rw [hW.1]
  first | refine z_tp0 (j := 0) lX5_15 eX5_takeRows_5 rfl hT hA (by decide) rfl rfl rfl ?_ | refine z_tp (j := 0) lX5_15 eX5_takeRows_5 rfl hT hA ⟨by decide, by decide⟩ rfl rfl rfl ?_
  refine z_al1 eX5_takeRows_8 (by omega) ?_
  first | refine z_ta0 lX5_11 eX5_takeRows_9 rfl hT hB (by decide) rfl rfl ?_ | refine z_ta lX5_11 eX5_takeRows_9 rfl hT hB ⟨by decide, by decide⟩ rfl rfl ?_
  refine z_iconst eX5_takeRows_12 ?_
  refine z_al0 eX5_takeRows_13 hne ?_
  first | refine z_ta0 lX5_11 eX5_takeRows_14 rfl hT hA (by decide) rfl rfl ?_ | refine z_ta lX5_11 eX5_takeRows_14 rfl hT hA ⟨by decide, by decide⟩ rfl rfl ?_
  refine z_iconst eX5_takeRows_17 ?_
  refine z_al0 eX5_takeRows_18 hne ?_
  first | refine z_ta0 lX5_11 eX5_takeRows_19 rfl hT hA (by decide) rfl rfl ?_ | refine z_ta lX5_11 eX5_takeRows_19 rfl hT hA ⟨by decide, by decide⟩ rfl rfl ?_
  refine z_tn eX5_takeRows_22 hT hA ⟨by decide, by decide⟩ rfl ?_
  refine z_tc eX5_takeRows_23 aX5_19 hT hB hA ⟨by decide, by decide⟩ ⟨by decide, by decide⟩ rfl rfl (fun _ => rfl) (fun _ => rfl) ⟨by omega, by omega, by omega, by omega, by omega⟩ (Nat.le_of_ble_eq_true rfl) (Nat.le_of_ble_eq_true rfl) ?_
  refine z_return eX5_takeRows_26 rfl ?_
  refine zZv ⟨fun i hi => ?_, ?_, fun a w a0 a1 w0 w1 => ?_⟩
  · funext j; unfold zcp; rw [if_neg (by omega), zset_o (by omega)]
  · unfold zcp; rw [if_neg (by omega), zset_eq]
  · unfold zcp; rw [if_pos ⟨rfl, by omega, by omega⟩, zset_o (by omega), show (0 : Int) + ((M 11 - 1 - a) * 5 + w - 0) = (M 11 - 1 - a) * 5 + w by omega]; exact hW.2 a w a0 a1 w0 w1
theorem c_X5_addRow {G : zG} {lay : zLay} {σ C0 : zMem} {nx x b : Int} (hT : TopL lay x) {k : Int} {M : Int → Int} (hA : LoAt b) (hW : LoR σ b M) (hI : zInv M) : zMM G 2 KX5_addRow [zP (x + b), zI (M 7), zI (M 6), zI k, zI (M 5), zI (M (74 + 5 * k + 4))] lay (tC x σ C0) nx (0, 0) (zZ' none (fun s => zOut b 2 σ s ∧ LoR s b (qLog M k)) lay C0 nx x) := by
  refine z_met' (L := [zP (x + b), zI (M 7), zI (M 6), zI k, zI (M 5), zI (M (74 + 5 * k + 4)), zU]) gX5_addRow.1 rfl rfl (Nat.le_of_ble_eq_true rfl) rfl ?_
  have hb0 := hA.b0 (by decide)
  have hx := hT.1
  have hm := hI.m11
  have hne : x + b ≠ -1 := by omega
  have hq11 : qLog M k 11 = if 60 < M 11 + 1 then 60 else M 11 + 1 := zput_eq
  have hq : ∀ a w, 0 ≤ a → a < 60 → 0 ≤ w → w < 5 → qLog M k (126 + 5 * a + w) = if a = 0 then (if w = 0 then M 7 else if w = 1 then M 6 else if w = 2 then k else if w = 3 then M 5 else M (74 + 5 * k + 4)) else M (126 + 5 * (a - 1) + w) := by
    intro a w a0 a1 w0 w1
    unfold qLog
    rw [zput_ne (by omega)]
    rw [zput_at, zput_at, zput_at, zput_at, zput_at]
    unfold qShf
    by_cases e : a = 0
    · subst e
      rw [if_pos rfl]
      have : w = 0 ∨ w = 1 ∨ w = 2 ∨ w = 3 ∨ w = 4 := by omega
      rcases this with e | e | e | e | e <;> subst e <;> rfl
    · rw [if_neg e, if_neg (by omega), if_neg (by omega), if_neg (by omega), if_neg (by omega), if_neg (by omega), if_pos (by omega)]
      congr 1
      omega
  have h35 : ∀ (S : zMem) (n : Int) (y6 : zAV), zOut b 2 σ S → S b 0 = n → 0 ≤ n → n < 60 → (n + 1 = if 60 < M 11 + 1 then 60 else M 11 + 1) → (∀ a w, 0 ≤ a → a < n → 0 ≤ w → w < 5 → S (b + 1) ((n - 1 - a) * 5 + w) = M (126 + 5 * a + w)) → zW G KX5_addRow 2 (zZ' none (fun s => zOut b 2 σ s ∧ LoR s b (qLog M k)) lay C0 nx x) 35 [zP (x + b), zI (M 7), zI (M 6), zI k, zI (M 5), zI (M (74 + 5 * k + 4)), y6] [] lay (tC x S C0) nx (0, 0) := by
    intro S n y6 hS hn n0 n1 hc hr
    have hf : zOut b 2 σ (zset (zset (zset (zset (zset (zset S (b + 1) (n * 5) (M 7)) (b + 1) (n * 5 + 1) (M 6)) (b + 1) (n * 5 + 2) k) (b + 1) (n * 5 + 3) (M 5)) (b + 1) (n * 5 + 4) (M (74 + 5 * k + 4))) b 0 (n + 1)) ∧ LoR (zset (zset (zset (zset (zset (zset S (b + 1) (n * 5) (M 7)) (b + 1) (n * 5 + 1) (M 6)) (b + 1) (n * 5 + 2) k) (b + 1) (n * 5 + 3) (M 5)) (b + 1) (n * 5 + 4) (M (74 + 5 * k + 4))) b 0 (n + 1)) b (qLog M k) := by
      refine ⟨(((((hS.set ⟨by omega, by omega⟩).set ⟨by omega, by omega⟩).set ⟨by omega, by omega⟩).set ⟨by omega, by omega⟩).set ⟨by omega, by omega⟩).set ⟨by omega, by omega⟩, ?_, fun a w a0 a1 w0 w1 => ?_⟩
      · rw [zset_eq, hq11]; exact hc
      · rw [hq11, ← hc] at a1 ⊢
        rw [hq a w a0 (by omega) w0 w1, zset_o (by omega), zset_at, zset_at, zset_at, zset_at, zset_at]
        by_cases e : a = 0
        · subst e
          rw [if_pos rfl]
          have : w = 0 ∨ w = 1 ∨ w = 2 ∨ w = 3 ∨ w = 4 := by omega
          rcases this with e | e | e | e | e <;> subst e
          · rw [if_neg (by omega), if_neg (by omega), if_neg (by omega), if_neg (by omega), if_pos ⟨rfl, by omega⟩]; rfl
          · rw [if_neg (by omega), if_neg (by omega), if_neg (by omega), if_pos ⟨rfl, by omega⟩]; rfl
          · rw [if_neg (by omega), if_neg (by omega), if_pos ⟨rfl, by omega⟩]; rfl
          · rw [if_neg (by omega), if_pos ⟨rfl, by omega⟩]; rfl
          · rw [if_pos ⟨rfl, by omega⟩]; rfl
        · rw [if_neg e, if_neg (by omega), if_neg (by omega), if_neg (by omega), if_neg (by omega), if_neg (by omega)]
          have := hr (a - 1) w (by omega) (by omega) w0 w1
          rw [show (n - 1 - (a - 1)) * 5 + w = (n + 1 - 1 - a) * 5 + w by omega] at this
          exact this
    refine z_al0 eX5_addRow_35 hne ?_
    first | refine z_tg0 (j := 0) lX5_15 eX5_addRow_36 rfl hT hA (by decide) rfl rfl rfl ?_ | refine z_tg (j := 0) lX5_15 eX5_addRow_36 rfl hT hA ⟨by decide, by decide⟩ rfl rfl rfl ?_
    rw [hn]
    refine z_iconst eX5_addRow_39 ?_
    refine z_imul eX5_addRow_40 ?_
    refine z_is6 eX5_addRow_41 (Nat.ne_of_beq_eq_false rfl) ?_
    refine z_il6 eX5_addRow_43 ?_
    refine z_if_lt (tgt := 60) eX5_addRow_45 rfl ⟨by omega, by omega⟩ (fun h45 => (by exfalso; omega)) (fun h45 => ?_)
    refine z_il6 eX5_addRow_48 ?_
    refine z_iconst eX5_addRow_50 ?_
    refine z_iadd eX5_addRow_51 ?_
    refine z_al0 eX5_addRow_52 hne ?_
    first | refine z_ta0 lX5_11 eX5_addRow_53 rfl hT hA (by decide) rfl rfl ?_ | refine z_ta lX5_11 eX5_addRow_53 rfl hT hA ⟨by decide, by decide⟩ rfl rfl ?_
    refine z_tn eX5_addRow_56 hT hA ⟨by decide, by decide⟩ rfl ?_
    refine z_icmp_le (tgt := 61) eX5_addRow_57 rfl ⟨⟨by omega, by omega⟩, ⟨by omega, by omega⟩⟩ (fun h57 => ?_) (fun h57 => (by exfalso; omega))
    refine z_al0 eX5_addRow_61 hne ?_
    first | refine z_ta0 lX5_11 eX5_addRow_62 rfl hT hA (by decide) rfl rfl ?_ | refine z_ta lX5_11 eX5_addRow_62 rfl hT hA ⟨by decide, by decide⟩ rfl rfl ?_
    refine z_il6 eX5_addRow_65 ?_
    refine z_il1 eX5_addRow_67 ?_
    refine z_ts eX5_addRow_68 hT hA ⟨by decide, by decide⟩ rfl rfl ⟨by omega, by omega⟩ ?_
    refine z_al0 eX5_addRow_69 hne ?_
    first | refine z_ta0 lX5_11 eX5_addRow_70 rfl hT hA (by decide) rfl rfl ?_ | refine z_ta lX5_11 eX5_addRow_70 rfl hT hA ⟨by decide, by decide⟩ rfl rfl ?_
    refine z_il6 eX5_addRow_73 ?_
    refine z_iconst eX5_addRow_75 ?_
    refine z_iadd eX5_addRow_76 ?_
    refine z_il2 eX5_addRow_77 ?_
    refine z_ts eX5_addRow_78 hT hA ⟨by decide, by decide⟩ rfl rfl ⟨by omega, by omega⟩ ?_
    refine z_al0 eX5_addRow_79 hne ?_
    first | refine z_ta0 lX5_11 eX5_addRow_80 rfl hT hA (by decide) rfl rfl ?_ | refine z_ta lX5_11 eX5_addRow_80 rfl hT hA ⟨by decide, by decide⟩ rfl rfl ?_
    refine z_il6 eX5_addRow_83 ?_
    refine z_iconst eX5_addRow_85 ?_
    refine z_iadd eX5_addRow_86 ?_
    refine z_il3 eX5_addRow_87 ?_
    refine z_ts eX5_addRow_88 hT hA ⟨by decide, by decide⟩ rfl rfl ⟨by omega, by omega⟩ ?_
    refine z_al0 eX5_addRow_89 hne ?_
    first | refine z_ta0 lX5_11 eX5_addRow_90 rfl hT hA (by decide) rfl rfl ?_ | refine z_ta lX5_11 eX5_addRow_90 rfl hT hA ⟨by decide, by decide⟩ rfl rfl ?_
    refine z_il6 eX5_addRow_93 ?_
    refine z_iconst eX5_addRow_95 ?_
    refine z_iadd eX5_addRow_96 ?_
    refine z_il4 eX5_addRow_97 ?_
    refine z_ts eX5_addRow_99 hT hA ⟨by decide, by decide⟩ rfl rfl ⟨by omega, by omega⟩ ?_
    refine z_al0 eX5_addRow_100 hne ?_
    first | refine z_ta0 lX5_11 eX5_addRow_101 rfl hT hA (by decide) rfl rfl ?_ | refine z_ta lX5_11 eX5_addRow_101 rfl hT hA ⟨by decide, by decide⟩ rfl rfl ?_
    refine z_il6 eX5_addRow_104 ?_
    refine z_iconst eX5_addRow_106 ?_
    refine z_iadd eX5_addRow_107 ?_
    refine z_il5 eX5_addRow_108 ?_
    refine z_ts eX5_addRow_110 hT hA ⟨by decide, by decide⟩ rfl rfl ⟨by omega, by omega⟩ ?_
    refine z_al0 eX5_addRow_111 hne ?_
    refine z_dup eX5_addRow_112 (Nat.ne_of_beq_eq_false rfl) ?_
    first | refine z_tg0 (j := 0) lX5_15 eX5_addRow_113 rfl hT hA (by decide) rfl rfl rfl ?_ | refine z_tg (j := 0) lX5_15 eX5_addRow_113 rfl hT hA ⟨by decide, by decide⟩ rfl rfl rfl ?_
    rw [zset_o (by omega), zset_o (by omega), zset_o (by omega), zset_o (by omega), zset_o (by omega), hn]
    refine z_iconst eX5_addRow_116 ?_
    refine z_iadd eX5_addRow_117 ?_
    first | refine z_tp0 (j := 0) lX5_15 eX5_addRow_118 rfl hT hA (by decide) rfl rfl rfl ?_ | refine z_tp (j := 0) lX5_15 eX5_addRow_118 rfl hT hA ⟨by decide, by decide⟩ rfl rfl rfl ?_
    refine z_return eX5_addRow_121 rfl ?_
    exact zZv hf
  have hs6 : zOut b 2 σ (zset (zcp σ (b + 1) (b + 1) 5 0 (300 - 5)) b 0 59) := by
    intro i hi
    rw [zset_o (by omega)]
    funext j
    unfold zcp
    rw [if_neg (by omega)]
  have hr6 : 60 ≤ M 11 → ∀ a w, 0 ≤ a → a < 59 → 0 ≤ w → w < 5 → zset (zcp σ (b + 1) (b + 1) 5 0 (300 - 5)) b 0 59 (b + 1) ((59 - 1 - a) * 5 + w) = M (126 + 5 * a + w) := by
    intro h60 a w a0 a1 w0 w1
    rw [zset_o (by omega)]
    unfold zcp
    rw [if_pos ⟨rfl, by omega, by omega⟩]
    have := hW.2 a w a0 (by omega) w0 w1
    rw [show (M 11 - 1 - a) * 5 + w = 5 + ((59 - 1 - a) * 5 + w - 0) by omega] at this
    exact this
  refine z_al0 eX5_addRow_0 hne ?_
  first | refine z_tg0 (j := 0) lX5_15 eX5_addRow_1 rfl hT hA (by decide) rfl rfl rfl ?_ | refine z_tg (j := 0) lX5_15 eX5_addRow_1 rfl hT hA ⟨by decide, by decide⟩ rfl rfl rfl ?_
  rw [hW.1]
  refine z_bipush eX5_addRow_4 (by decide) ?_
  refine z_icmp_lt (tgt := 35) eX5_addRow_6 rfl ⟨⟨by omega, by omega⟩, ⟨by omega, by omega⟩⟩ (fun h6 => ?_) (fun h6 => ?_)
  · first | exact h35 _ _ _ (zOut.refl _ _ _) hW.1 (by omega) (by omega) (by rw [if_neg (by omega)]) (fun a w a0 a1 w0 w1 => hW.2 a w a0 a1 w0 w1) | exact h35 _ 59 _ hs6 zset_eq (by decide) (by decide) (by rw [if_pos (by omega)]; rfl) (hr6 (by omega))
  · refine z_al0 eX5_addRow_9 hne ?_
    first | refine z_ta0 lX5_11 eX5_addRow_10 rfl hT hA (by decide) rfl rfl ?_ | refine z_ta lX5_11 eX5_addRow_10 rfl hT hA ⟨by decide, by decide⟩ rfl rfl ?_
    refine z_iconst eX5_addRow_13 ?_
    refine z_al0 eX5_addRow_14 hne ?_
    first | refine z_ta0 lX5_11 eX5_addRow_15 rfl hT hA (by decide) rfl rfl ?_ | refine z_ta lX5_11 eX5_addRow_15 rfl hT hA ⟨by decide, by decide⟩ rfl rfl ?_
    refine z_iconst eX5_addRow_18 ?_
    refine z_al0 eX5_addRow_19 hne ?_
    first | refine z_ta0 lX5_11 eX5_addRow_20 rfl hT hA (by decide) rfl rfl ?_ | refine z_ta lX5_11 eX5_addRow_20 rfl hT hA ⟨by decide, by decide⟩ rfl rfl ?_
    refine z_tn eX5_addRow_23 hT hA ⟨by decide, by decide⟩ rfl ?_
    refine z_iconst eX5_addRow_24 ?_
    refine z_isub eX5_addRow_25 ?_
    refine z_tc eX5_addRow_26 aX5_19 hT hA hA ⟨by decide, by decide⟩ ⟨by decide, by decide⟩ rfl rfl (fun _ => rfl) (fun _ => rfl) ⟨by omega, by omega, by omega, by omega, by omega⟩ (Nat.le_of_ble_eq_true rfl) (Nat.le_of_ble_eq_true rfl) ?_
    refine z_al0 eX5_addRow_29 hne ?_
    refine z_bipush eX5_addRow_30 (by decide) ?_
    first | refine z_tp0 (j := 0) lX5_15 eX5_addRow_32 rfl hT hA (by decide) rfl rfl rfl ?_ | refine z_tp (j := 0) lX5_15 eX5_addRow_32 rfl hT hA ⟨by decide, by decide⟩ rfl rfl rfl ?_
    first | exact h35 _ _ _ (zOut.refl _ _ _) hW.1 (by omega) (by omega) (by rw [if_neg (by omega)]) (fun a w a0 a1 w0 w1 => hW.2 a w a0 a1 w0 w1) | exact h35 _ 59 _ hs6 zset_eq (by decide) (by decide) (by rw [if_pos (by omega)]; rfl) (hr6 (by omega))
