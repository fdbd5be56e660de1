/-! One council takes over another. -/
theorem zcp_o {σ : zMem} {s t sp dp n i : Int} (h : i ≠ t) : zcp σ s t sp dp n i = σ i := by
  funext j
  unfold zcp
  rw [if_neg (fun z => h z.1)]
theorem zcp_t {σ : zMem} {s t n j : Int} (h : 0 ≤ j ∧ j < n) : zcp σ s t 0 0 n t j = σ s j := by
  unfold zcp
  rw [if_pos ⟨rfl, h.1, by omega⟩, show (0 : Int) + (j - 0) = j by omega]
theorem c_X6_takeMotions {G : zG} {lay : zLay} {σ C0 : zMem} {nx x b : Int} (hT : TopL lay x) {b2 : Int} {M : Int → Int} (hA : MoAt b) (hB : MoAt b2) (hd : b + 7 ≤ b2 ∨ b2 + 7 ≤ b) (hW : MoR σ b2 M) (hI : zInv M) : zMM G 2 KX6_takeMotions [zP (x + b), zP (x + b2)] lay (tC x σ C0) nx (0, 0) (zZ' none (fun s => zOut b 7 σ s ∧ MoR s b M) lay C0 nx x) := by
  refine z_met' (L := [zP (x + b), zP (x + b2)]) gX6_takeMotions.1 rfl rfl (Nat.le_of_ble_eq_true rfl) rfl ?_
  have hb0 := hA.b0 (by decide)
  have hb2 := hB.b0 (by decide)
  have hx := hT.1
  have hm := hI.m4
  have hne : x + b ≠ -1 := by omega
  refine z_al0 eX6_takeMotions_0 hne ?_
  refine z_al1 eX6_takeMotions_1 (by omega) ?_
  first | refine z_tg0 (j := 0) lX6_36 eX6_takeMotions_2 rfl hT hB (by decide) rfl rfl rfl ?_ | refine z_tg (j := 0) lX6_36 eX6_takeMotions_2 rfl hT hB ⟨by decide, by decide⟩ rfl rfl rfl ?_
  rw [hW.1]
  first | refine z_tp0 (j := 0) lX6_36 eX6_takeMotions_5 rfl hT hA (by decide) rfl rfl rfl ?_ | refine z_tp (j := 0) lX6_36 eX6_takeMotions_5 rfl hT hA ⟨by decide, by decide⟩ rfl rfl rfl ?_
  refine z_al1 eX6_takeMotions_8 (by omega) ?_
  first | refine z_ta0 lX6_9 eX6_takeMotions_9 rfl hT hB (by decide) rfl rfl ?_ | refine z_ta lX6_9 eX6_takeMotions_9 rfl hT hB ⟨by decide, by decide⟩ rfl rfl ?_
  refine z_iconst eX6_takeMotions_12 ?_
  refine z_al0 eX6_takeMotions_13 hne ?_
  first | refine z_ta0 lX6_9 eX6_takeMotions_14 rfl hT hA (by decide) rfl rfl ?_ | refine z_ta lX6_9 eX6_takeMotions_14 rfl hT hA ⟨by decide, by decide⟩ rfl rfl ?_
  refine z_iconst eX6_takeMotions_17 ?_
  refine z_bipush eX6_takeMotions_18 (by decide) ?_
  refine z_tc eX6_takeMotions_20 aX6_40 hT hB hA ⟨by decide, by decide⟩ ⟨by decide, by decide⟩ rfl rfl (fun _ => rfl) (fun _ => rfl) ⟨by omega, by omega, by omega, by omega, by omega⟩ (Nat.le_of_ble_eq_true rfl) (Nat.le_of_ble_eq_true rfl) ?_
  refine z_al1 eX6_takeMotions_23 (by omega) ?_
  first | refine z_ta0 lX6_15 eX6_takeMotions_24 rfl hT hB (by decide) rfl rfl ?_ | refine z_ta lX6_15 eX6_takeMotions_24 rfl hT hB ⟨by decide, by decide⟩ rfl rfl ?_
  refine z_iconst eX6_takeMotions_27 ?_
  refine z_al0 eX6_takeMotions_28 hne ?_
  first | refine z_ta0 lX6_15 eX6_takeMotions_29 rfl hT hA (by decide) rfl rfl ?_ | refine z_ta lX6_15 eX6_takeMotions_29 rfl hT hA ⟨by decide, by decide⟩ rfl rfl ?_
  refine z_iconst eX6_takeMotions_32 ?_
  refine z_bipush eX6_takeMotions_33 (by decide) ?_
  refine z_tc eX6_takeMotions_35 aX6_40 hT hB hA ⟨by decide, by decide⟩ ⟨by decide, by decide⟩ rfl rfl (fun _ => rfl) (fun _ => rfl) ⟨by omega, by omega, by omega, by omega, by omega⟩ (Nat.le_of_ble_eq_true rfl) (Nat.le_of_ble_eq_true rfl) ?_
  refine z_al1 eX6_takeMotions_38 (by omega) ?_
  first | refine z_ta0 lX6_18 eX6_takeMotions_39 rfl hT hB (by decide) rfl rfl ?_ | refine z_ta lX6_18 eX6_takeMotions_39 rfl hT hB ⟨by decide, by decide⟩ rfl rfl ?_
  refine z_iconst eX6_takeMotions_42 ?_
  refine z_al0 eX6_takeMotions_43 hne ?_
  first | refine z_ta0 lX6_18 eX6_takeMotions_44 rfl hT hA (by decide) rfl rfl ?_ | refine z_ta lX6_18 eX6_takeMotions_44 rfl hT hA ⟨by decide, by decide⟩ rfl rfl ?_
  refine z_iconst eX6_takeMotions_47 ?_
  refine z_bipush eX6_takeMotions_48 (by decide) ?_
  refine z_tc eX6_takeMotions_50 aX6_40 hT hB hA ⟨by decide, by decide⟩ ⟨by decide, by decide⟩ rfl rfl (fun _ => rfl) (fun _ => rfl) ⟨by omega, by omega, by omega, by omega, by omega⟩ (Nat.le_of_ble_eq_true rfl) (Nat.le_of_ble_eq_true rfl) ?_
  refine z_al1 eX6_takeMotions_53 (by omega) ?_
  first | refine z_ta0 lX6_21 eX6_takeMotions_54 rfl hT hB (by decide) rfl rfl ?_ | refine z_ta lX6_21 eX6_takeMotions_54 rfl hT hB ⟨by decide, by decide⟩ rfl rfl ?_
  refine z_iconst eX6_takeMotions_57 ?_
  refine z_al0 eX6_takeMotions_58 hne ?_
  first | refine z_ta0 lX6_21 eX6_takeMotions_59 rfl hT hA (by decide) rfl rfl ?_ | refine z_ta lX6_21 eX6_takeMotions_59 rfl hT hA ⟨by decide, by decide⟩ rfl rfl ?_
  refine z_iconst eX6_takeMotions_62 ?_
  refine z_bipush eX6_takeMotions_63 (by decide) ?_
  refine z_tc eX6_takeMotions_65 aX6_40 hT hB hA ⟨by decide, by decide⟩ ⟨by decide, by decide⟩ rfl rfl (fun _ => rfl) (fun _ => rfl) ⟨by omega, by omega, by omega, by omega, by omega⟩ (Nat.le_of_ble_eq_true rfl) (Nat.le_of_ble_eq_true rfl) ?_
  refine z_al1 eX6_takeMotions_68 (by omega) ?_
  first | refine z_ta0 lX6_24 eX6_takeMotions_69 rfl hT hB (by decide) rfl rfl ?_ | refine z_ta lX6_24 eX6_takeMotions_69 rfl hT hB ⟨by decide, by decide⟩ rfl rfl ?_
  refine z_iconst eX6_takeMotions_72 ?_
  refine z_al0 eX6_takeMotions_73 hne ?_
  first | refine z_ta0 lX6_24 eX6_takeMotions_74 rfl hT hA (by decide) rfl rfl ?_ | refine z_ta lX6_24 eX6_takeMotions_74 rfl hT hA ⟨by decide, by decide⟩ rfl rfl ?_
  refine z_iconst eX6_takeMotions_77 ?_
  refine z_bipush eX6_takeMotions_78 (by decide) ?_
  refine z_tc eX6_takeMotions_80 aX6_40 hT hB hA ⟨by decide, by decide⟩ ⟨by decide, by decide⟩ rfl rfl (fun _ => rfl) (fun _ => rfl) ⟨by omega, by omega, by omega, by omega, by omega⟩ (Nat.le_of_ble_eq_true rfl) (Nat.le_of_ble_eq_true rfl) ?_
  refine z_al1 eX6_takeMotions_83 (by omega) ?_
  first | refine z_ta0 lX6_27 eX6_takeMotions_84 rfl hT hB (by decide) rfl rfl ?_ | refine z_ta lX6_27 eX6_takeMotions_84 rfl hT hB ⟨by decide, by decide⟩ rfl rfl ?_
  refine z_iconst eX6_takeMotions_87 ?_
  refine z_al0 eX6_takeMotions_88 hne ?_
  first | refine z_ta0 lX6_27 eX6_takeMotions_89 rfl hT hA (by decide) rfl rfl ?_ | refine z_ta lX6_27 eX6_takeMotions_89 rfl hT hA ⟨by decide, by decide⟩ rfl rfl ?_
  refine z_iconst eX6_takeMotions_92 ?_
  refine z_bipush eX6_takeMotions_93 (by decide) ?_
  refine z_tc eX6_takeMotions_95 aX6_40 hT hB hA ⟨by decide, by decide⟩ ⟨by decide, by decide⟩ rfl rfl (fun _ => rfl) (fun _ => rfl) ⟨by omega, by omega, by omega, by omega, by omega⟩ (Nat.le_of_ble_eq_true rfl) (Nat.le_of_ble_eq_true rfl) ?_
  refine z_return eX6_takeMotions_98 rfl ?_
  refine zZv ⟨fun i hi => ?_, ?_, fun k k0 k1 => ?_, fun h h0 h1 => ?_⟩
  · rw [zcp_o (by omega), zcp_o (by omega), zcp_o (by omega), zcp_o (by omega), zcp_o (by omega), zcp_o (by omega), zset_o (by omega)]
  · rw [zcp_o (by omega), zcp_o (by omega), zcp_o (by omega), zcp_o (by omega), zcp_o (by omega), zcp_o (by omega), zset_eq]
  · have := hW.2.1 k k0 k1
    refine ⟨?_, ?_, ?_, ?_, ?_⟩
    · rw [zcp_o (by omega), zcp_o (by omega), zcp_o (by omega), zcp_o (by omega), zcp_o (by omega), zcp_t ⟨k0, by omega⟩, zset_o (by omega)]; exact this.1
    · rw [zcp_o (by omega), zcp_o (by omega), zcp_o (by omega), zcp_o (by omega), zcp_t ⟨k0, by omega⟩, zcp_o (by omega), zset_o (by omega)]; exact this.2.1
    · rw [zcp_o (by omega), zcp_o (by omega), zcp_o (by omega), zcp_t ⟨k0, by omega⟩, zcp_o (by omega), zcp_o (by omega), zset_o (by omega)]; exact this.2.2.1
    · rw [zcp_o (by omega), zcp_o (by omega), zcp_t ⟨k0, by omega⟩, zcp_o (by omega), zcp_o (by omega), zcp_o (by omega), zset_o (by omega)]; exact this.2.2.2.1
    · rw [zcp_o (by omega), zcp_t ⟨k0, by omega⟩, zcp_o (by omega), zcp_o (by omega), zcp_o (by omega), zcp_o (by omega), zset_o (by omega)]; exact this.2.2.2.2
  · rw [zcp_t ⟨h0, h1⟩, zcp_o (by omega), zcp_o (by omega), zcp_o (by omega), zcp_o (by omega), zcp_o (by omega), zset_o (by omega)]; exact hW.2.2 h h0 h1
theorem c_X1_takeAll {G : zG} {lay : zLay} {σ C0 : zMem} {nx x b : Int} (hT : TopL lay x) {b2 : Int} {M : Int → Int} (hA : CoAt b) (hB : CoAt b2) (hd : b + 18 ≤ b2 ∨ b2 + 18 ≤ b) (hN : CoN σ b2 M) (hI : zInv M) : zMM G 3 KX1_takeAll [zP (x + b), zP (x + b2)] lay (tC x σ C0) nx (0, 0) (zZ' none (fun s => zOut b 18 σ s ∧ s b 10 = σ b2 10 ∧ CoN s b M) lay C0 nx x) := by
  refine z_met' (L := [zP (x + b), zP (x + b2)]) gX1_takeAll.1 rfl rfl (Nat.le_of_ble_eq_true rfl) rfl ?_
  have hb0 := hA.b0 (by decide)
  have hb2 := hB.b0 (by decide)
  have hx := hT.1
  have hm3 := hI.m3
  have hne : x + b ≠ -1 := by omega
  have hq : ∀ S : zMem, zOut b 18 σ S → WeR S (b2 + 4) M ∧ MoR S (b2 + 8) M ∧ LoR S (b2 + 15) M := fun S hS => ⟨hN.we.out (hS _ (by omega)) (hS _ (by omega)), hN.mo.out (fun i i0 i1 => hS _ (by omega)), hN.lo.out (hS _ (by omega)) (hS _ (by omega))⟩
  obtain ⟨Q, hQ⟩ : ∃ Q, zZ' none (fun s => zOut b 18 σ s ∧ s b 10 = σ b2 10 ∧ CoN s b M) lay C0 nx x = Q := ⟨_, rfl⟩
  have w109 : ∀ S : zMem, zOut b 18 σ S → S b 0 = M 0 → S b 1 = M 3 → (∀ p, 0 ≤ p → p < M 3 → S (b + 1) p = M (46 + 4 * p + 0)) → (∀ p, 0 ≤ p → p < M 3 → S (b + 2) p = M (46 + 4 * p + 1)) → (∀ k, 0 ≤ k → k < 8 → S (b + 3) k = M (38 + k)) → S b 4 = qHats M → S b 5 = qOuts M → S b 7 = M 8 → S b 8 = M 9 → S b 9 = M 10 → S b 10 = σ b2 10 → zW G KX1_takeAll 3 Q 109 [zP (x + b), zP (x + b2)] [] lay (tC x S C0) nx (0, 0) := by
    intro S hS a1 a2 a3 a4 a5 a6 a7 a8 a9 a10 a11
    subst hQ
    refine z_al0 eX1_takeAll_109 hne ?_
    first | refine z_ta0 lX1_40 eX1_takeAll_110 rfl hT hA (by decide) rfl rfl ?_ | refine z_ta lX1_40 eX1_takeAll_110 rfl hT hA ⟨by decide, by decide⟩ rfl rfl ?_
    refine z_al1 eX1_takeAll_113 (by omega) ?_
    first | refine z_ta0 lX1_40 eX1_takeAll_114 rfl hT hB (by decide) rfl rfl ?_ | refine z_ta lX1_40 eX1_takeAll_114 rfl hT hB ⟨by decide, by decide⟩ rfl rfl ?_
    refine z_V1vz eX1_takeAll_117 vX1_85 rfl rfl (Nat.le_of_ble_eq_true rfl) (Nat.le_of_ble_eq_true rfl) ((hA.we).L0 hT (by decide)) (c_X9_takeWeather hT hA.we hB.we (by omega) (hq S hS).1) (fun s117 hs117 => ?_)
    have hS1 := hS.trans (hs117.1.sub (b := b) (n := 18) ⟨by omega, by omega⟩)
    refine z_al0 eX1_takeAll_120 hne ?_
    first | refine z_ta0 lX1_47 eX1_takeAll_121 rfl hT hA (by decide) rfl rfl ?_ | refine z_ta lX1_47 eX1_takeAll_121 rfl hT hA ⟨by decide, by decide⟩ rfl rfl ?_
    refine z_al1 eX1_takeAll_124 (by omega) ?_
    first | refine z_ta0 lX1_47 eX1_takeAll_125 rfl hT hB (by decide) rfl rfl ?_ | refine z_ta lX1_47 eX1_takeAll_125 rfl hT hB ⟨by decide, by decide⟩ rfl rfl ?_
    refine z_V1vz eX1_takeAll_128 vX1_89 rfl rfl (Nat.le_of_ble_eq_true rfl) (Nat.le_of_ble_eq_true rfl) ((hA.mo).L0 hT (by decide)) (c_X6_takeMotions hT hA.mo hB.mo (by omega) (hq _ hS1).2.1 hI) (fun s128 hs128 => ?_)
    have hS2 := hS1.trans (hs128.1.sub (b := b) (n := 18) ⟨by omega, by omega⟩)
    refine z_al0 eX1_takeAll_131 hne ?_
    first | refine z_ta0 lX1_54 eX1_takeAll_132 rfl hT hA (by decide) rfl rfl ?_ | refine z_ta lX1_54 eX1_takeAll_132 rfl hT hA ⟨by decide, by decide⟩ rfl rfl ?_
    refine z_al1 eX1_takeAll_135 (by omega) ?_
    first | refine z_ta0 lX1_54 eX1_takeAll_136 rfl hT hB (by decide) rfl rfl ?_ | refine z_ta lX1_54 eX1_takeAll_136 rfl hT hB ⟨by decide, by decide⟩ rfl rfl ?_
    refine z_V1vz eX1_takeAll_139 vX1_93 rfl rfl (Nat.le_of_ble_eq_true rfl) (Nat.le_of_ble_eq_true rfl) ((hA.lo).L0 hT (by decide)) (c_X5_takeRows hT hA.lo hB.lo (by omega) (hq _ hS2).2.2 hI) (fun s139 hs139 => ?_)
    have hS3 := hS2.trans (hs139.1.sub (b := b) (n := 18) ⟨by omega, by omega⟩)
    have e : ∀ i, 0 ≤ i → i < 4 → s139 (b + i) = S (b + i) := fun i i0 i1 => by rw [hs139.1 _ (by omega), hs128.1 _ (by omega), hs117.1 _ (by omega)]
    have e0 := e 0 (by decide) (by decide)
    rw [Int.add_zero] at e0
    refine z_return eX1_takeAll_142 rfl ?_
    refine zZv ⟨hS3, by rw [e0]; exact a11, by rw [e0]; exact a1, by rw [e0]; exact a2, by rw [e 1 (by decide) (by decide)]; exact a3, by rw [e 2 (by decide) (by decide)]; exact a4, by rw [e 3 (by decide) (by decide)]; exact a5, by rw [e0]; exact a6, by rw [e0]; exact a7, by rw [e0]; exact a8, by rw [e0]; exact a9, by rw [e0]; exact a10, ?_, ?_, hs139.2⟩
    · exact hs117.2.out (by rw [hs139.1 _ (by omega), hs128.1 _ (by omega)]) (by rw [hs139.1 _ (by omega), hs128.1 _ (by omega)])
    · exact hs128.2.out (fun i i0 i1 => hs139.1 _ (by omega))
  rw [hQ]
  refine z_al0 eX1_takeAll_0 hne ?_
  refine z_al1 eX1_takeAll_1 (by omega) ?_
  first | refine z_tg0 (j := 0) lX1_63 eX1_takeAll_2 rfl hT hB (by decide) rfl rfl rfl ?_ | refine z_tg (j := 0) lX1_63 eX1_takeAll_2 rfl hT hB ⟨by decide, by decide⟩ rfl rfl rfl ?_
  rw [hN.n0]
  first | refine z_tp0 (j := 0) lX1_63 eX1_takeAll_5 rfl hT hA (by decide) rfl rfl rfl ?_ | refine z_tp (j := 0) lX1_63 eX1_takeAll_5 rfl hT hA ⟨by decide, by decide⟩ rfl rfl rfl ?_
  refine z_al0 eX1_takeAll_8 hne ?_
  refine z_al1 eX1_takeAll_9 (by omega) ?_
  first | refine z_tg0 (j := 1) lX1_66 eX1_takeAll_10 rfl hT hB (by decide) rfl rfl rfl ?_ | refine z_tg (j := 1) lX1_66 eX1_takeAll_10 rfl hT hB ⟨by decide, by decide⟩ rfl rfl rfl ?_
  rw [zset_o (by omega), hN.n3]
  first | refine z_tp0 (j := 1) lX1_66 eX1_takeAll_13 rfl hT hA (by decide) rfl rfl rfl ?_ | refine z_tp (j := 1) lX1_66 eX1_takeAll_13 rfl hT hA ⟨by decide, by decide⟩ rfl rfl rfl ?_
  refine z_al1 eX1_takeAll_16 (by omega) ?_
  first | refine z_ta0 lX1_9 eX1_takeAll_17 rfl hT hB (by decide) rfl rfl ?_ | refine z_ta lX1_9 eX1_takeAll_17 rfl hT hB ⟨by decide, by decide⟩ rfl rfl ?_
  refine z_iconst eX1_takeAll_20 ?_
  refine z_al0 eX1_takeAll_21 hne ?_
  first | refine z_ta0 lX1_9 eX1_takeAll_22 rfl hT hA (by decide) rfl rfl ?_ | refine z_ta lX1_9 eX1_takeAll_22 rfl hT hA ⟨by decide, by decide⟩ rfl rfl ?_
  refine z_iconst eX1_takeAll_25 ?_
  refine z_bipush eX1_takeAll_26 (by decide) ?_
  refine z_tc eX1_takeAll_28 aX1_69 hT hB hA ⟨by decide, by decide⟩ ⟨by decide, by decide⟩ rfl rfl (fun _ => rfl) (fun _ => rfl) ⟨by omega, by omega, by omega, by omega, by omega⟩ (Nat.le_of_ble_eq_true rfl) (Nat.le_of_ble_eq_true rfl) ?_
  refine z_al1 eX1_takeAll_31 (by omega) ?_
  first | refine z_ta0 lX1_15 eX1_takeAll_32 rfl hT hB (by decide) rfl rfl ?_ | refine z_ta lX1_15 eX1_takeAll_32 rfl hT hB ⟨by decide, by decide⟩ rfl rfl ?_
  refine z_iconst eX1_takeAll_35 ?_
  refine z_al0 eX1_takeAll_36 hne ?_
  first | refine z_ta0 lX1_15 eX1_takeAll_37 rfl hT hA (by decide) rfl rfl ?_ | refine z_ta lX1_15 eX1_takeAll_37 rfl hT hA ⟨by decide, by decide⟩ rfl rfl ?_
  refine z_iconst eX1_takeAll_40 ?_
  refine z_bipush eX1_takeAll_41 (by decide) ?_
  refine z_tc eX1_takeAll_43 aX1_69 hT hB hA ⟨by decide, by decide⟩ ⟨by decide, by decide⟩ rfl rfl (fun _ => rfl) (fun _ => rfl) ⟨by omega, by omega, by omega, by omega, by omega⟩ (Nat.le_of_ble_eq_true rfl) (Nat.le_of_ble_eq_true rfl) ?_
  refine z_al0 eX1_takeAll_46 hne ?_
  refine z_al1 eX1_takeAll_47 (by omega) ?_
  first | refine z_tg0 (j := 4) lX1_75 eX1_takeAll_48 rfl hT hB (by decide) rfl rfl rfl ?_ | refine z_tg (j := 4) lX1_75 eX1_takeAll_48 rfl hT hB ⟨by decide, by decide⟩ rfl rfl rfl ?_
  rw [zcp_o (by omega), zcp_o (by omega), zset_o (by omega), zset_o (by omega), hN.ha]
  first | refine z_tp0 (j := 4) lX1_75 eX1_takeAll_51 rfl hT hA (by decide) rfl rfl rfl ?_ | refine z_tp (j := 4) lX1_75 eX1_takeAll_51 rfl hT hA ⟨by decide, by decide⟩ rfl rfl rfl ?_
  refine z_al0 eX1_takeAll_54 hne ?_
  refine z_al1 eX1_takeAll_55 (by omega) ?_
  first | refine z_tg0 (j := 5) lX1_78 eX1_takeAll_56 rfl hT hB (by decide) rfl rfl rfl ?_ | refine z_tg (j := 5) lX1_78 eX1_takeAll_56 rfl hT hB ⟨by decide, by decide⟩ rfl rfl rfl ?_
  rw [zset_o (by omega), zcp_o (by omega), zcp_o (by omega), zset_o (by omega), zset_o (by omega), hN.ou]
  first | refine z_tp0 (j := 5) lX1_78 eX1_takeAll_59 rfl hT hA (by decide) rfl rfl rfl ?_ | refine z_tp (j := 5) lX1_78 eX1_takeAll_59 rfl hT hA ⟨by decide, by decide⟩ rfl rfl rfl ?_
  refine z_al1 eX1_takeAll_62 (by omega) ?_
  first | refine z_ta0 lX1_18 eX1_takeAll_63 rfl hT hB (by decide) rfl rfl ?_ | refine z_ta lX1_18 eX1_takeAll_63 rfl hT hB ⟨by decide, by decide⟩ rfl rfl ?_
  refine z_iconst eX1_takeAll_66 ?_
  refine z_al0 eX1_takeAll_67 hne ?_
  first | refine z_ta0 lX1_18 eX1_takeAll_68 rfl hT hA (by decide) rfl rfl ?_ | refine z_ta lX1_18 eX1_takeAll_68 rfl hT hA ⟨by decide, by decide⟩ rfl rfl ?_
  refine z_iconst eX1_takeAll_71 ?_
  refine z_bipush eX1_takeAll_72 (by decide) ?_
  refine z_tc eX1_takeAll_74 aX1_69 hT hB hA ⟨by decide, by decide⟩ ⟨by decide, by decide⟩ rfl rfl (fun _ => rfl) (fun _ => rfl) ⟨by omega, by omega, by omega, by omega, by omega⟩ (Nat.le_of_ble_eq_true rfl) (Nat.le_of_ble_eq_true rfl) ?_
  refine z_al0 eX1_takeAll_77 hne ?_
  refine z_al1 eX1_takeAll_78 (by omega) ?_
  first | refine z_tg0 (j := 7) lX1_27 eX1_takeAll_79 rfl hT hB (by decide) rfl rfl rfl ?_ | refine z_tg (j := 7) lX1_27 eX1_takeAll_79 rfl hT hB ⟨by decide, by decide⟩ rfl rfl rfl ?_
  rw [zcp_o (by omega), zset_o (by omega), zset_o (by omega), zcp_o (by omega), zcp_o (by omega), zset_o (by omega), zset_o (by omega), hN.n8]
  first | refine z_tp0 (j := 7) lX1_27 eX1_takeAll_82 rfl hT hA (by decide) rfl rfl rfl ?_ | refine z_tp (j := 7) lX1_27 eX1_takeAll_82 rfl hT hA ⟨by decide, by decide⟩ rfl rfl rfl ?_
  refine z_al0 eX1_takeAll_85 hne ?_
  refine z_al1 eX1_takeAll_86 (by omega) ?_
  first | refine z_tg0 (j := 8) lX1_31 eX1_takeAll_87 rfl hT hB (by decide) rfl rfl rfl ?_ | refine z_tg (j := 8) lX1_31 eX1_takeAll_87 rfl hT hB ⟨by decide, by decide⟩ rfl rfl rfl ?_
  rw [zset_o (by omega), zcp_o (by omega), zset_o (by omega), zset_o (by omega), zcp_o (by omega), zcp_o (by omega), zset_o (by omega), zset_o (by omega), hN.n9]
  first | refine z_tp0 (j := 8) lX1_31 eX1_takeAll_90 rfl hT hA (by decide) rfl rfl rfl ?_ | refine z_tp (j := 8) lX1_31 eX1_takeAll_90 rfl hT hA ⟨by decide, by decide⟩ rfl rfl rfl ?_
  refine z_al0 eX1_takeAll_93 hne ?_
  refine z_al1 eX1_takeAll_94 (by omega) ?_
  first | refine z_tg0 (j := 9) lX1_34 eX1_takeAll_95 rfl hT hB (by decide) rfl rfl rfl ?_ | refine z_tg (j := 9) lX1_34 eX1_takeAll_95 rfl hT hB ⟨by decide, by decide⟩ rfl rfl rfl ?_
  rw [zset_o (by omega), zset_o (by omega), zcp_o (by omega), zset_o (by omega), zset_o (by omega), zcp_o (by omega), zcp_o (by omega), zset_o (by omega), zset_o (by omega), hN.n10]
  first | refine z_tp0 (j := 9) lX1_34 eX1_takeAll_98 rfl hT hA (by decide) rfl rfl rfl ?_ | refine z_tp (j := 9) lX1_34 eX1_takeAll_98 rfl hT hA ⟨by decide, by decide⟩ rfl rfl rfl ?_
  refine z_al0 eX1_takeAll_101 hne ?_
  refine z_al1 eX1_takeAll_102 (by omega) ?_
  first | refine z_td0 (j := 10) lX1_81 eX1_takeAll_103 rfl hT hB (by decide) rfl rfl rfl ?_ | refine z_td (j := 10) lX1_81 eX1_takeAll_103 rfl hT hB ⟨by decide, by decide⟩ rfl rfl rfl ?_
  rw [zset_o (by omega), zset_o (by omega), zset_o (by omega), zcp_o (by omega), zset_o (by omega), zset_o (by omega), zcp_o (by omega), zcp_o (by omega), zset_o (by omega), zset_o (by omega)]
  first | refine z_tpd0 (j := 10) lX1_81 eX1_takeAll_106 rfl rfl hT hA (by decide) rfl rfl rfl ?_ | refine z_tpd (j := 10) lX1_81 eX1_takeAll_106 rfl rfl hT hA ⟨by decide, by decide⟩ rfl rfl rfl ?_
  refine w109 _ (fun i hi => ?_) ?_ ?_ (fun p p0 p1 => ?_) (fun p p0 p1 => ?_) (fun k k0 k1 => ?_) ?_ ?_ ?_ ?_ ?_ ?_
  · iterate 4 rw [zset_o (by omega)]
    rw [zcp_o (by omega), zset_o (by omega), zset_o (by omega), zcp_o (by omega), zcp_o (by omega), zset_o (by omega), zset_o (by omega)]
  · iterate 4 rw [zset_f (by decide)]
    rw [zcp_o (by omega), zset_f (by decide), zset_f (by decide), zcp_o (by omega), zcp_o (by omega), zset_f (by decide), zset_eq]
  · iterate 4 rw [zset_f (by decide)]
    rw [zcp_o (by omega), zset_f (by decide), zset_f (by decide), zcp_o (by omega), zcp_o (by omega), zset_eq]
  · iterate 4 rw [zset_o (by omega)]
    rw [zcp_o (by omega), zset_o (by omega), zset_o (by omega), zcp_o (by omega), zcp_t ⟨p0, by omega⟩, zset_o (by omega), zset_o (by omega)]
    exact hN.pl p p0 p1
  · iterate 4 rw [zset_o (by omega)]
    rw [zcp_o (by omega), zset_o (by omega), zset_o (by omega), zcp_t ⟨p0, by omega⟩, zcp_o (by omega), zset_o (by omega), zset_o (by omega)]
    exact hN.se p p0 p1
  · iterate 4 rw [zset_o (by omega)]
    rw [zcp_t ⟨k0, by omega⟩, zset_o (by omega), zset_o (by omega), zcp_o (by omega), zcp_o (by omega), zset_o (by omega), zset_o (by omega)]
    exact hN.ex k k0 k1
  · iterate 4 rw [zset_f (by decide)]
    rw [zcp_o (by omega), zset_f (by decide), zset_eq]
  · iterate 4 rw [zset_f (by decide)]
    rw [zcp_o (by omega), zset_eq]
  · rw [zset_f (by decide), zset_f (by decide), zset_f (by decide), zset_eq]
  · rw [zset_f (by decide), zset_f (by decide), zset_eq]
  · rw [zset_f (by decide), zset_eq]
  · exact zset_eq
