/-! A council's facts. -/
theorem c_X1_fillFacts {G : zG} {lay : zLay} {σ C0 : zMem} {nx x b : Int} (hT : TopL lay x) {p s k h : Int} {M : Int → Int} (hA : CoAt b) (hN : CoN σ b M) (hI : zInv M) (hp : 0 ≤ p ∧ p < M 3) (hs : 0 ≤ s ∧ s < 5) (hk : k = -1 ∨ 0 ≤ k ∧ k < M 4) (hh : 0 ≤ h ∧ h < 12) : zMM G 2 KX1_fillFacts [zP (x + b), zI p, zI s, zI k, zI h] lay (tC x σ C0) nx (0, 0) (zZ' none (fun q => zOut (b + 17) 1 σ q ∧ ∀ j, 0 ≤ j → j < 10 → q (b + 17) j = qFa M p s k h j) lay C0 nx x) := by
  refine z_met' (L := [zP (x + b), zI p, zI s, zI k, zI h, zU]) gX1_fillFacts.1 rfl rfl (Nat.le_of_ble_eq_true rfl) rfl ?_
  have hb0 := hA.b0 (by decide)
  have hx := hT.1
  have hne : x + b ≠ -1 := by omega
  have hm3 := hI.m3
  have hm4 := hI.m4
  have hU := hI.U (p := p) ⟨hp.1, by omega⟩
  have hpl := hN.pl p hp.1 hp.2
  have hse := hN.se p hp.1 hp.2
  have hha := qHats_B hI hp
  have hex := hN.ex _ hU.1.1 (by omega)
  have hhat : qHat M p = M (46 + 4 * p + 2) := by unfold qHat; split <;> omega
  have hj : ∀ j : Int, 0 ≤ j → j < 10 → j = 0 ∨ j = 1 ∨ j = 2 ∨ j = 3 ∨ j = 4 ∨ j = 5 ∨ j = 6 ∨ j = 7 ∨ j = 8 ∨ j = 9 := fun j a c => by omega
  have hfin : ∀ v5 v6 v9 : Int, v5 = (if k = -1 then 8 else k) → v6 = (if k = -1 then 0 else M (74 + 5 * k + 2)) → v9 = qMov M p k → ∀ v8, v8 = zbi (1 < s) → (let S := zset (zset (zset (zset (zset (zset (zset (zset (zset (zset σ (b + 17) 0 p) (b + 17) 1 (M (38 + M (46 + 4 * p + 0)))) (b + 17) 2 (M (46 + 4 * p + 1))) (b + 17) 3 s) (b + 17) 4 h) (b + 17) 5 v5) (b + 17) 6 v6) (b + 17) 7 (M (46 + 4 * p + 2))) (b + 17) 8 v8) (b + 17) 9 v9; zOut (b + 17) 1 σ S ∧ ∀ j, 0 ≤ j → j < 10 → S (b + 17) j = qFa M p s k h j) := by
    intro v5 v6 v9 h5 h6 h9 v8 h8
    refine ⟨fun i hi => ?_, fun j j0 j1 => ?_⟩
    · iterate 10 rw [zset_o (by omega)]
    · subst h5 h6 h9 h8
      rcases hj j j0 j1 with e | e | e | e | e | e | e | e | e | e <;> subst e <;> simp [zset_at, qFa, qFacts, hhat]
  have e8 : (if s < 2 then (0 : Int) else 1) = zbi (1 < s) := by unfold zbi; split <;> split <;> omega
  rcases hk with hk | hk
  · have q5 : (8 : Int) = (if k = -1 then 8 else k) := by rw [if_pos hk]
    have q6 : (0 : Int) = (if k = -1 then 0 else M (74 + 5 * k + 2)) := by rw [if_pos hk]
    have q9 : (0 : Int) = qMov M p k := by unfold qMov; rw [if_pos hk]
    refine z_al0 eX1_fillFacts_0 hne ?_
    first | refine z_ta0 lX1_47 eX1_fillFacts_1 rfl hT hA (by decide) rfl rfl ?_ | refine z_ta lX1_47 eX1_fillFacts_1 rfl hT hA ⟨by decide, by decide⟩ rfl rfl ?_
    refine z_il3 eX1_fillFacts_4 ?_
    refine z_V1 eX1_fillFacts_5 vX1_109 rfl rfl (Nat.le_of_ble_eq_true rfl) (Nat.le_of_ble_eq_true rfl) ((hA.mo).L0 hT (by decide)) (c_X6_has hT hA.mo hN.mo hI.m4 ⟨by omega, by omega⟩) ?_
    rw [zbi_f (by omega)]
    refine z_is5 eX1_fillFacts_8 (Nat.ne_of_beq_eq_false rfl) ?_
    refine z_al0 eX1_fillFacts_10 hne ?_
    first | refine z_ta0 lX1_60 eX1_fillFacts_11 rfl hT hA (by decide) rfl rfl ?_ | refine z_ta lX1_60 eX1_fillFacts_11 rfl hT hA ⟨by decide, by decide⟩ rfl rfl ?_
    refine z_iconst eX1_fillFacts_14 ?_
    refine z_il1 eX1_fillFacts_15 ?_
    refine z_ts eX1_fillFacts_16 hT hA ⟨by decide, by decide⟩ rfl rfl ⟨by omega, by omega⟩ ?_
    refine z_al0 eX1_fillFacts_17 hne ?_
    first | refine z_ta0 lX1_60 eX1_fillFacts_18 rfl hT hA (by decide) rfl rfl ?_ | refine z_ta lX1_60 eX1_fillFacts_18 rfl hT hA ⟨by decide, by decide⟩ rfl rfl ?_
    refine z_iconst eX1_fillFacts_21 ?_
    refine z_al0 eX1_fillFacts_22 hne ?_
    first | refine z_ta0 lX1_18 eX1_fillFacts_23 rfl hT hA (by decide) rfl rfl ?_ | refine z_ta lX1_18 eX1_fillFacts_23 rfl hT hA ⟨by decide, by decide⟩ rfl rfl ?_
    refine z_al0 eX1_fillFacts_26 hne ?_
    first | refine z_ta0 lX1_9 eX1_fillFacts_27 rfl hT hA (by decide) rfl rfl ?_ | refine z_ta lX1_9 eX1_fillFacts_27 rfl hT hA ⟨by decide, by decide⟩ rfl rfl ?_
    refine z_il1 eX1_fillFacts_30 ?_
    refine z_tl eX1_fillFacts_31 hT hA ⟨by decide, by decide⟩ rfl rfl ⟨by omega, by omega⟩ ?_
    rw [zset_o (by omega), hpl]
    refine z_tl eX1_fillFacts_32 hT hA ⟨by decide, by decide⟩ rfl rfl ⟨by omega, by omega⟩ ?_
    rw [zset_o (by omega), hex]
    refine z_ts eX1_fillFacts_33 hT hA ⟨by decide, by decide⟩ rfl rfl ⟨by omega, by omega⟩ ?_
    refine z_al0 eX1_fillFacts_34 hne ?_
    first | refine z_ta0 lX1_60 eX1_fillFacts_35 rfl hT hA (by decide) rfl rfl ?_ | refine z_ta lX1_60 eX1_fillFacts_35 rfl hT hA ⟨by decide, by decide⟩ rfl rfl ?_
    refine z_iconst eX1_fillFacts_38 ?_
    refine z_al0 eX1_fillFacts_39 hne ?_
    first | refine z_ta0 lX1_15 eX1_fillFacts_40 rfl hT hA (by decide) rfl rfl ?_ | refine z_ta lX1_15 eX1_fillFacts_40 rfl hT hA ⟨by decide, by decide⟩ rfl rfl ?_
    refine z_il1 eX1_fillFacts_43 ?_
    refine z_tl eX1_fillFacts_44 hT hA ⟨by decide, by decide⟩ rfl rfl ⟨by omega, by omega⟩ ?_
    rw [zset_o (by omega), zset_o (by omega), hse]
    refine z_ts eX1_fillFacts_45 hT hA ⟨by decide, by decide⟩ rfl rfl ⟨by omega, by omega⟩ ?_
    refine z_al0 eX1_fillFacts_46 hne ?_
    first | refine z_ta0 lX1_60 eX1_fillFacts_47 rfl hT hA (by decide) rfl rfl ?_ | refine z_ta lX1_60 eX1_fillFacts_47 rfl hT hA ⟨by decide, by decide⟩ rfl rfl ?_
    refine z_iconst eX1_fillFacts_50 ?_
    refine z_il2 eX1_fillFacts_51 ?_
    refine z_ts eX1_fillFacts_52 hT hA ⟨by decide, by decide⟩ rfl rfl ⟨by omega, by omega⟩ ?_
    refine z_al0 eX1_fillFacts_53 hne ?_
    first | refine z_ta0 lX1_60 eX1_fillFacts_54 rfl hT hA (by decide) rfl rfl ?_ | refine z_ta lX1_60 eX1_fillFacts_54 rfl hT hA ⟨by decide, by decide⟩ rfl rfl ?_
    refine z_iconst eX1_fillFacts_57 ?_
    refine z_il4 eX1_fillFacts_58 ?_
    refine z_ts eX1_fillFacts_60 hT hA ⟨by decide, by decide⟩ rfl rfl ⟨by omega, by omega⟩ ?_
    refine z_al0 eX1_fillFacts_61 hne ?_
    first | refine z_ta0 lX1_60 eX1_fillFacts_62 rfl hT hA (by decide) rfl rfl ?_ | refine z_ta lX1_60 eX1_fillFacts_62 rfl hT hA ⟨by decide, by decide⟩ rfl rfl ?_
    refine z_iconst eX1_fillFacts_65 ?_
    refine z_il5 eX1_fillFacts_66 ?_
    refine z_if_eq (tgt := 75) eX1_fillFacts_68 rfl ⟨by omega, by omega⟩ (fun h68 => ?_) (fun h68 => (by exfalso; omega))
    refine z_bipush eX1_fillFacts_75 (by decide) ?_
    refine z_ts eX1_fillFacts_77 hT hA ⟨by decide, by decide⟩ rfl rfl ⟨by omega, by omega⟩ ?_
    refine z_al0 eX1_fillFacts_78 hne ?_
    first | refine z_ta0 lX1_60 eX1_fillFacts_79 rfl hT hA (by decide) rfl rfl ?_ | refine z_ta lX1_60 eX1_fillFacts_79 rfl hT hA ⟨by decide, by decide⟩ rfl rfl ?_
    refine z_bipush eX1_fillFacts_82 (by decide) ?_
    refine z_il5 eX1_fillFacts_84 ?_
    refine z_if_eq (tgt := 101) eX1_fillFacts_86 rfl ⟨by omega, by omega⟩ (fun h86 => ?_) (fun h86 => (by exfalso; omega))
    refine z_iconst eX1_fillFacts_101 ?_
    refine z_ts eX1_fillFacts_102 hT hA ⟨by decide, by decide⟩ rfl rfl ⟨by omega, by omega⟩ ?_
    refine z_al0 eX1_fillFacts_103 hne ?_
    first | refine z_ta0 lX1_60 eX1_fillFacts_104 rfl hT hA (by decide) rfl rfl ?_ | refine z_ta lX1_60 eX1_fillFacts_104 rfl hT hA ⟨by decide, by decide⟩ rfl rfl ?_
    refine z_bipush eX1_fillFacts_107 (by decide) ?_
    refine z_al0 eX1_fillFacts_109 hne ?_
    first | refine z_tg0 (j := 4) lX1_75 eX1_fillFacts_110 rfl hT hA (by decide) rfl rfl rfl ?_ | refine z_tg (j := 4) lX1_75 eX1_fillFacts_110 rfl hT hA ⟨by decide, by decide⟩ rfl rfl rfl ?_
    iterate 7 rw [zset_o (by omega)]
    rw [hN.ha]
    refine z_il1 eX1_fillFacts_113 ?_
    refine z_N2 eX1_fillFacts_114 vX1_101 rfl (Nat.le_of_ble_eq_true rfl) (Nat.le_of_ble_eq_true rfl) (c_X11_bitOf hT ⟨by omega, by omega⟩) ?_
    rw [hha]
    refine z_ts eX1_fillFacts_117 hT hA ⟨by decide, by decide⟩ rfl rfl ⟨by omega, by omega⟩ ?_
    refine z_al0 eX1_fillFacts_118 hne ?_
    first | refine z_ta0 lX1_60 eX1_fillFacts_119 rfl hT hA (by decide) rfl rfl ?_ | refine z_ta lX1_60 eX1_fillFacts_119 rfl hT hA ⟨by decide, by decide⟩ rfl rfl ?_
    refine z_bipush eX1_fillFacts_122 (by decide) ?_
    refine z_il2 eX1_fillFacts_124 ?_
    refine z_iconst eX1_fillFacts_125 ?_
    refine z_icmp_lt (tgt := 133) eX1_fillFacts_126 rfl ⟨⟨by omega, by omega⟩, ⟨by omega, by omega⟩⟩ (fun h126 => ?_) (fun h126 => ?_)
    · refine z_iconst eX1_fillFacts_133 ?_
      refine z_ts eX1_fillFacts_134 hT hA ⟨by decide, by decide⟩ rfl rfl ⟨by omega, by omega⟩ ?_
      refine z_al0 eX1_fillFacts_135 hne ?_
      first | refine z_ta0 lX1_60 eX1_fillFacts_136 rfl hT hA (by decide) rfl rfl ?_ | refine z_ta lX1_60 eX1_fillFacts_136 rfl hT hA ⟨by decide, by decide⟩ rfl rfl ?_
      refine z_bipush eX1_fillFacts_139 (by decide) ?_
      refine z_il5 eX1_fillFacts_141 ?_
      refine z_if_eq (tgt := 163) eX1_fillFacts_143 rfl ⟨by omega, by omega⟩ (fun h143 => ?_) (fun h143 => (by exfalso; omega))
      refine z_iconst eX1_fillFacts_163 ?_
      refine z_ts eX1_fillFacts_164 hT hA ⟨by decide, by decide⟩ rfl rfl ⟨by omega, by omega⟩ ?_
      refine z_return eX1_fillFacts_165 rfl ?_
      first | exact zZv (hfin 8 0 0 q5 q6 q9 0 (by rw [zbi_f (by omega)])) | exact zZv (hfin 8 0 0 q5 q6 q9 1 (by rw [zbi_t (by omega)])) | fail
    · refine z_iconst eX1_fillFacts_129 ?_
      refine z_goto eX1_fillFacts_130 (tgt := 134) rfl ?_
      refine z_ts eX1_fillFacts_134 hT hA ⟨by decide, by decide⟩ rfl rfl ⟨by omega, by omega⟩ ?_
      refine z_al0 eX1_fillFacts_135 hne ?_
      first | refine z_ta0 lX1_60 eX1_fillFacts_136 rfl hT hA (by decide) rfl rfl ?_ | refine z_ta lX1_60 eX1_fillFacts_136 rfl hT hA ⟨by decide, by decide⟩ rfl rfl ?_
      refine z_bipush eX1_fillFacts_139 (by decide) ?_
      refine z_il5 eX1_fillFacts_141 ?_
      refine z_if_eq (tgt := 163) eX1_fillFacts_143 rfl ⟨by omega, by omega⟩ (fun h143 => ?_) (fun h143 => (by exfalso; omega))
      refine z_iconst eX1_fillFacts_163 ?_
      refine z_ts eX1_fillFacts_164 hT hA ⟨by decide, by decide⟩ rfl rfl ⟨by omega, by omega⟩ ?_
      refine z_return eX1_fillFacts_165 rfl ?_
      first | exact zZv (hfin 8 0 0 q5 q6 q9 0 (by rw [zbi_f (by omega)])) | exact zZv (hfin 8 0 0 q5 q6 q9 1 (by rw [zbi_t (by omega)])) | fail
  · have q5 : k = (if k = -1 then 8 else k) := by rw [if_neg (by omega)]
    have q6 : M (74 + 5 * k + 2) = (if k = -1 then 0 else M (74 + 5 * k + 2)) := by rw [if_neg (by omega)]
    have hV := hI.V (k := k) ⟨hk.1, by omega⟩
    have hmo := hN.mo.2.1 k hk.1 hk.2
    refine z_al0 eX1_fillFacts_0 hne ?_
    first | refine z_ta0 lX1_47 eX1_fillFacts_1 rfl hT hA (by decide) rfl rfl ?_ | refine z_ta lX1_47 eX1_fillFacts_1 rfl hT hA ⟨by decide, by decide⟩ rfl rfl ?_
    refine z_il3 eX1_fillFacts_4 ?_
    refine z_V1 eX1_fillFacts_5 vX1_109 rfl rfl (Nat.le_of_ble_eq_true rfl) (Nat.le_of_ble_eq_true rfl) ((hA.mo).L0 hT (by decide)) (c_X6_has hT hA.mo hN.mo hI.m4 ⟨by omega, by omega⟩) ?_
    rw [zbi_t (by omega)]
    refine z_is5 eX1_fillFacts_8 (Nat.ne_of_beq_eq_false rfl) ?_
    refine z_al0 eX1_fillFacts_10 hne ?_
    first | refine z_ta0 lX1_60 eX1_fillFacts_11 rfl hT hA (by decide) rfl rfl ?_ | refine z_ta lX1_60 eX1_fillFacts_11 rfl hT hA ⟨by decide, by decide⟩ rfl rfl ?_
    refine z_iconst eX1_fillFacts_14 ?_
    refine z_il1 eX1_fillFacts_15 ?_
    refine z_ts eX1_fillFacts_16 hT hA ⟨by decide, by decide⟩ rfl rfl ⟨by omega, by omega⟩ ?_
    refine z_al0 eX1_fillFacts_17 hne ?_
    first | refine z_ta0 lX1_60 eX1_fillFacts_18 rfl hT hA (by decide) rfl rfl ?_ | refine z_ta lX1_60 eX1_fillFacts_18 rfl hT hA ⟨by decide, by decide⟩ rfl rfl ?_
    refine z_iconst eX1_fillFacts_21 ?_
    refine z_al0 eX1_fillFacts_22 hne ?_
    first | refine z_ta0 lX1_18 eX1_fillFacts_23 rfl hT hA (by decide) rfl rfl ?_ | refine z_ta lX1_18 eX1_fillFacts_23 rfl hT hA ⟨by decide, by decide⟩ rfl rfl ?_
    refine z_al0 eX1_fillFacts_26 hne ?_
    first | refine z_ta0 lX1_9 eX1_fillFacts_27 rfl hT hA (by decide) rfl rfl ?_ | refine z_ta lX1_9 eX1_fillFacts_27 rfl hT hA ⟨by decide, by decide⟩ rfl rfl ?_
    refine z_il1 eX1_fillFacts_30 ?_
    refine z_tl eX1_fillFacts_31 hT hA ⟨by decide, by decide⟩ rfl rfl ⟨by omega, by omega⟩ ?_
    rw [zset_o (by omega), hpl]
    refine z_tl eX1_fillFacts_32 hT hA ⟨by decide, by decide⟩ rfl rfl ⟨by omega, by omega⟩ ?_
    rw [zset_o (by omega), hex]
    refine z_ts eX1_fillFacts_33 hT hA ⟨by decide, by decide⟩ rfl rfl ⟨by omega, by omega⟩ ?_
    refine z_al0 eX1_fillFacts_34 hne ?_
    first | refine z_ta0 lX1_60 eX1_fillFacts_35 rfl hT hA (by decide) rfl rfl ?_ | refine z_ta lX1_60 eX1_fillFacts_35 rfl hT hA ⟨by decide, by decide⟩ rfl rfl ?_
    refine z_iconst eX1_fillFacts_38 ?_
    refine z_al0 eX1_fillFacts_39 hne ?_
    first | refine z_ta0 lX1_15 eX1_fillFacts_40 rfl hT hA (by decide) rfl rfl ?_ | refine z_ta lX1_15 eX1_fillFacts_40 rfl hT hA ⟨by decide, by decide⟩ rfl rfl ?_
    refine z_il1 eX1_fillFacts_43 ?_
    refine z_tl eX1_fillFacts_44 hT hA ⟨by decide, by decide⟩ rfl rfl ⟨by omega, by omega⟩ ?_
    rw [zset_o (by omega), zset_o (by omega), hse]
    refine z_ts eX1_fillFacts_45 hT hA ⟨by decide, by decide⟩ rfl rfl ⟨by omega, by omega⟩ ?_
    refine z_al0 eX1_fillFacts_46 hne ?_
    first | refine z_ta0 lX1_60 eX1_fillFacts_47 rfl hT hA (by decide) rfl rfl ?_ | refine z_ta lX1_60 eX1_fillFacts_47 rfl hT hA ⟨by decide, by decide⟩ rfl rfl ?_
    refine z_iconst eX1_fillFacts_50 ?_
    refine z_il2 eX1_fillFacts_51 ?_
    refine z_ts eX1_fillFacts_52 hT hA ⟨by decide, by decide⟩ rfl rfl ⟨by omega, by omega⟩ ?_
    refine z_al0 eX1_fillFacts_53 hne ?_
    first | refine z_ta0 lX1_60 eX1_fillFacts_54 rfl hT hA (by decide) rfl rfl ?_ | refine z_ta lX1_60 eX1_fillFacts_54 rfl hT hA ⟨by decide, by decide⟩ rfl rfl ?_
    refine z_iconst eX1_fillFacts_57 ?_
    refine z_il4 eX1_fillFacts_58 ?_
    refine z_ts eX1_fillFacts_60 hT hA ⟨by decide, by decide⟩ rfl rfl ⟨by omega, by omega⟩ ?_
    refine z_al0 eX1_fillFacts_61 hne ?_
    first | refine z_ta0 lX1_60 eX1_fillFacts_62 rfl hT hA (by decide) rfl rfl ?_ | refine z_ta lX1_60 eX1_fillFacts_62 rfl hT hA ⟨by decide, by decide⟩ rfl rfl ?_
    refine z_iconst eX1_fillFacts_65 ?_
    refine z_il5 eX1_fillFacts_66 ?_
    refine z_if_eq (tgt := 75) eX1_fillFacts_68 rfl ⟨by omega, by omega⟩ (fun h68 => (by exfalso; omega)) (fun h68 => ?_)
    refine z_il3 eX1_fillFacts_71 ?_
    refine z_goto eX1_fillFacts_72 (tgt := 77) rfl ?_
    refine z_ts eX1_fillFacts_77 hT hA ⟨by decide, by decide⟩ rfl rfl ⟨by omega, by omega⟩ ?_
    refine z_al0 eX1_fillFacts_78 hne ?_
    first | refine z_ta0 lX1_60 eX1_fillFacts_79 rfl hT hA (by decide) rfl rfl ?_ | refine z_ta lX1_60 eX1_fillFacts_79 rfl hT hA ⟨by decide, by decide⟩ rfl rfl ?_
    refine z_bipush eX1_fillFacts_82 (by decide) ?_
    refine z_il5 eX1_fillFacts_84 ?_
    refine z_if_eq (tgt := 101) eX1_fillFacts_86 rfl ⟨by omega, by omega⟩ (fun h86 => (by exfalso; omega)) (fun h86 => ?_)
    refine z_al0 eX1_fillFacts_89 hne ?_
    first | refine z_ta0 lX1_47 eX1_fillFacts_90 rfl hT hA (by decide) rfl rfl ?_ | refine z_ta lX1_47 eX1_fillFacts_90 rfl hT hA ⟨by decide, by decide⟩ rfl rfl ?_
    first | refine z_ta0 lX1_113 eX1_fillFacts_93 rfl hT hA.mo (by decide) rfl rfl ?_ | refine z_ta lX1_113 eX1_fillFacts_93 rfl hT hA.mo ⟨by decide, by decide⟩ rfl rfl ?_
    refine z_il3 eX1_fillFacts_96 ?_
    refine z_tl eX1_fillFacts_97 hT hA.mo ⟨by decide, by decide⟩ rfl rfl ⟨by omega, by omega⟩ ?_
    iterate 6 rw [zset_o (by omega)]
    rw [hmo.2.2.1]
    refine z_goto eX1_fillFacts_98 (tgt := 102) rfl ?_
    refine z_ts eX1_fillFacts_102 hT hA ⟨by decide, by decide⟩ rfl rfl ⟨by omega, by omega⟩ ?_
    refine z_al0 eX1_fillFacts_103 hne ?_
    first | refine z_ta0 lX1_60 eX1_fillFacts_104 rfl hT hA (by decide) rfl rfl ?_ | refine z_ta lX1_60 eX1_fillFacts_104 rfl hT hA ⟨by decide, by decide⟩ rfl rfl ?_
    refine z_bipush eX1_fillFacts_107 (by decide) ?_
    refine z_al0 eX1_fillFacts_109 hne ?_
    first | refine z_tg0 (j := 4) lX1_75 eX1_fillFacts_110 rfl hT hA (by decide) rfl rfl rfl ?_ | refine z_tg (j := 4) lX1_75 eX1_fillFacts_110 rfl hT hA ⟨by decide, by decide⟩ rfl rfl rfl ?_
    iterate 7 rw [zset_o (by omega)]
    rw [hN.ha]
    refine z_il1 eX1_fillFacts_113 ?_
    refine z_N2 eX1_fillFacts_114 vX1_101 rfl (Nat.le_of_ble_eq_true rfl) (Nat.le_of_ble_eq_true rfl) (c_X11_bitOf hT ⟨by omega, by omega⟩) ?_
    rw [hha]
    refine z_ts eX1_fillFacts_117 hT hA ⟨by decide, by decide⟩ rfl rfl ⟨by omega, by omega⟩ ?_
    refine z_al0 eX1_fillFacts_118 hne ?_
    first | refine z_ta0 lX1_60 eX1_fillFacts_119 rfl hT hA (by decide) rfl rfl ?_ | refine z_ta lX1_60 eX1_fillFacts_119 rfl hT hA ⟨by decide, by decide⟩ rfl rfl ?_
    refine z_bipush eX1_fillFacts_122 (by decide) ?_
    refine z_il2 eX1_fillFacts_124 ?_
    refine z_iconst eX1_fillFacts_125 ?_
    refine z_icmp_lt (tgt := 133) eX1_fillFacts_126 rfl ⟨⟨by omega, by omega⟩, ⟨by omega, by omega⟩⟩ (fun h126 => ?_) (fun h126 => ?_)
    · refine z_iconst eX1_fillFacts_133 ?_
      refine z_ts eX1_fillFacts_134 hT hA ⟨by decide, by decide⟩ rfl rfl ⟨by omega, by omega⟩ ?_
      refine z_al0 eX1_fillFacts_135 hne ?_
      first | refine z_ta0 lX1_60 eX1_fillFacts_136 rfl hT hA (by decide) rfl rfl ?_ | refine z_ta lX1_60 eX1_fillFacts_136 rfl hT hA ⟨by decide, by decide⟩ rfl rfl ?_
      refine z_bipush eX1_fillFacts_139 (by decide) ?_
      refine z_il5 eX1_fillFacts_141 ?_
      refine z_if_eq (tgt := 163) eX1_fillFacts_143 rfl ⟨by omega, by omega⟩ (fun h143 => (by exfalso; omega)) (fun h143 => ?_)
      refine z_al0 eX1_fillFacts_146 hne ?_
      first | refine z_ta0 lX1_47 eX1_fillFacts_147 rfl hT hA (by decide) rfl rfl ?_ | refine z_ta lX1_47 eX1_fillFacts_147 rfl hT hA ⟨by decide, by decide⟩ rfl rfl ?_
      first | refine z_ta0 lX1_116 eX1_fillFacts_150 rfl hT hA.mo (by decide) rfl rfl ?_ | refine z_ta lX1_116 eX1_fillFacts_150 rfl hT hA.mo ⟨by decide, by decide⟩ rfl rfl ?_
      refine z_il3 eX1_fillFacts_153 ?_
      refine z_tl eX1_fillFacts_154 hT hA.mo ⟨by decide, by decide⟩ rfl rfl ⟨by omega, by omega⟩ ?_
      iterate 9 rw [zset_o (by omega)]
      rw [hmo.1]
      refine z_il1 eX1_fillFacts_155 ?_
      refine z_icmp_ne (tgt := 163) eX1_fillFacts_156 rfl ⟨⟨by omega, by omega⟩, ⟨by omega, by omega⟩⟩ (fun h156 => ?_) (fun h156 => ?_)
      · refine z_iconst eX1_fillFacts_163 ?_
        refine z_ts eX1_fillFacts_164 hT hA ⟨by decide, by decide⟩ rfl rfl ⟨by omega, by omega⟩ ?_
        refine z_return eX1_fillFacts_165 rfl ?_
        first | exact zZv (hfin k _ 0 q5 q6 (by unfold qMov; rw [if_neg (by omega), if_neg (by omega)]) 0 (by rw [zbi_f (by omega)])) | exact zZv (hfin k _ 0 q5 q6 (by unfold qMov; rw [if_neg (by omega), if_neg (by omega)]) 1 (by rw [zbi_t (by omega)])) | exact zZv (hfin k _ 1 q5 q6 (by unfold qMov; rw [if_neg (by omega), if_pos (by omega)]) 0 (by rw [zbi_f (by omega)])) | exact zZv (hfin k _ 1 q5 q6 (by unfold qMov; rw [if_neg (by omega), if_pos (by omega)]) 1 (by rw [zbi_t (by omega)])) | fail
      · refine z_iconst eX1_fillFacts_159 ?_
        refine z_goto eX1_fillFacts_160 (tgt := 164) rfl ?_
        refine z_ts eX1_fillFacts_164 hT hA ⟨by decide, by decide⟩ rfl rfl ⟨by omega, by omega⟩ ?_
        refine z_return eX1_fillFacts_165 rfl ?_
        first | exact zZv (hfin k _ 0 q5 q6 (by unfold qMov; rw [if_neg (by omega), if_neg (by omega)]) 0 (by rw [zbi_f (by omega)])) | exact zZv (hfin k _ 0 q5 q6 (by unfold qMov; rw [if_neg (by omega), if_neg (by omega)]) 1 (by rw [zbi_t (by omega)])) | exact zZv (hfin k _ 1 q5 q6 (by unfold qMov; rw [if_neg (by omega), if_pos (by omega)]) 0 (by rw [zbi_f (by omega)])) | exact zZv (hfin k _ 1 q5 q6 (by unfold qMov; rw [if_neg (by omega), if_pos (by omega)]) 1 (by rw [zbi_t (by omega)])) | fail
    · refine z_iconst eX1_fillFacts_129 ?_
      refine z_goto eX1_fillFacts_130 (tgt := 134) rfl ?_
      refine z_ts eX1_fillFacts_134 hT hA ⟨by decide, by decide⟩ rfl rfl ⟨by omega, by omega⟩ ?_
      refine z_al0 eX1_fillFacts_135 hne ?_
      first | refine z_ta0 lX1_60 eX1_fillFacts_136 rfl hT hA (by decide) rfl rfl ?_ | refine z_ta lX1_60 eX1_fillFacts_136 rfl hT hA ⟨by decide, by decide⟩ rfl rfl ?_
      refine z_bipush eX1_fillFacts_139 (by decide) ?_
      refine z_il5 eX1_fillFacts_141 ?_
      refine z_if_eq (tgt := 163) eX1_fillFacts_143 rfl ⟨by omega, by omega⟩ (fun h143 => (by exfalso; omega)) (fun h143 => ?_)
      refine z_al0 eX1_fillFacts_146 hne ?_
      first | refine z_ta0 lX1_47 eX1_fillFacts_147 rfl hT hA (by decide) rfl rfl ?_ | refine z_ta lX1_47 eX1_fillFacts_147 rfl hT hA ⟨by decide, by decide⟩ rfl rfl ?_
      first | refine z_ta0 lX1_116 eX1_fillFacts_150 rfl hT hA.mo (by decide) rfl rfl ?_ | refine z_ta lX1_116 eX1_fillFacts_150 rfl hT hA.mo ⟨by decide, by decide⟩ rfl rfl ?_
      refine z_il3 eX1_fillFacts_153 ?_
      refine z_tl eX1_fillFacts_154 hT hA.mo ⟨by decide, by decide⟩ rfl rfl ⟨by omega, by omega⟩ ?_
      iterate 9 rw [zset_o (by omega)]
      rw [hmo.1]
      refine z_il1 eX1_fillFacts_155 ?_
      refine z_icmp_ne (tgt := 163) eX1_fillFacts_156 rfl ⟨⟨by omega, by omega⟩, ⟨by omega, by omega⟩⟩ (fun h156 => ?_) (fun h156 => ?_)
      · refine z_iconst eX1_fillFacts_163 ?_
        refine z_ts eX1_fillFacts_164 hT hA ⟨by decide, by decide⟩ rfl rfl ⟨by omega, by omega⟩ ?_
        refine z_return eX1_fillFacts_165 rfl ?_
        first | exact zZv (hfin k _ 0 q5 q6 (by unfold qMov; rw [if_neg (by omega), if_neg (by omega)]) 0 (by rw [zbi_f (by omega)])) | exact zZv (hfin k _ 0 q5 q6 (by unfold qMov; rw [if_neg (by omega), if_neg (by omega)]) 1 (by rw [zbi_t (by omega)])) | exact zZv (hfin k _ 1 q5 q6 (by unfold qMov; rw [if_neg (by omega), if_pos (by omega)]) 0 (by rw [zbi_f (by omega)])) | exact zZv (hfin k _ 1 q5 q6 (by unfold qMov; rw [if_neg (by omega), if_pos (by omega)]) 1 (by rw [zbi_t (by omega)])) | fail
      · refine z_iconst eX1_fillFacts_159 ?_
        refine z_goto eX1_fillFacts_160 (tgt := 164) rfl ?_
        refine z_ts eX1_fillFacts_164 hT hA ⟨by decide, by decide⟩ rfl rfl ⟨by omega, by omega⟩ ?_
        refine z_return eX1_fillFacts_165 rfl ?_
        first | exact zZv (hfin k _ 0 q5 q6 (by unfold qMov; rw [if_neg (by omega), if_neg (by omega)]) 0 (by rw [zbi_f (by omega)])) | exact zZv (hfin k _ 0 q5 q6 (by unfold qMov; rw [if_neg (by omega), if_neg (by omega)]) 1 (by rw [zbi_t (by omega)])) | exact zZv (hfin k _ 1 q5 q6 (by unfold qMov; rw [if_neg (by omega), if_pos (by omega)]) 0 (by rw [zbi_f (by omega)])) | exact zZv (hfin k _ 1 q5 q6 (by unfold qMov; rw [if_neg (by omega), if_pos (by omega)]) 1 (by rw [zbi_t (by omega)])) | fail
