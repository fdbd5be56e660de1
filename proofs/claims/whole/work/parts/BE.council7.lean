/-! What is carried, on. -/
noncomputable def qBackOf (M : Int → Int) (set bk n : Int) : Int := zors (fun i => if zbit set i = 1 ∧ qGoO M i 2 (M 6) (qOuts M) (zor (M (74 + 5 * i + 3)) bk) = 1 then zshl 1 i else 0) n
theorem c_X1_carriedBacked {G : zG} {lay : zLay} {σ C0 : zMem} {nx x b : Int} (hT : TopL lay x) {set bk : Int} {M : Int → Int} (hA : CoAt b) (hR : CoR lay x C0 σ b M) (hM : zOC M) : zMM G 6 KX1_carriedBacked [zP (x + b), zI set, zI bk] lay (tC x σ C0) nx (0, 0) (zY' (some (zI (qBackOf M set bk (M 4)))) (fun q C => zFc b σ C0 q C) lay nx x) := by
  refine z_met' (L := [zP (x + b), zI set, zI bk, zU, zU, zU]) gX1_carriedBacked.1 rfl rfl (Nat.le_of_ble_eq_true rfl) rfl ?_
  have hb0 := hA.b0 (by decide)
  have hx := hT.1
  have hne : x + b ≠ -1 := by omega
  have hI := hM.I
  have hm4 := hI.m4
  have h6 := hI.s 6 rfl (by omega)
  have ho := qOuts_256 hM.ol.1
  have hl : ∀ t : Int, 0 ≤ t → t ≤ M 4 → ∀ (S C : zMem) (y5 : zAV), zFc b σ C0 S C → zW G KX1_carriedBacked 6 (zY' (some (zI (qBackOf M set bk (M 4)))) (fun q C => zFc b σ C0 q C) lay nx x) 5 [zP (x + b), zI set, zI bk, zI (qBackOf M set bk t), zI t, y5] [] lay (tC x S C) nx (0, 0) := by
    refine z_up (M 4) ?_ ?_
    · intro S C y5 hC
      have hR := hR.fc hC
      refine z_il4 eX1_carriedBacked_5 ?_
      refine z_al0 eX1_carriedBacked_7 hne ?_
      first | refine z_ta0 lX1_47 eX1_carriedBacked_8 rfl hT hA (by decide) rfl rfl ?_ | refine z_ta lX1_47 eX1_carriedBacked_8 rfl hT hA ⟨by decide, by decide⟩ rfl rfl ?_
      first | refine z_tg0 (j := 0) lX1_161 eX1_carriedBacked_11 rfl hT hA.mo (by decide) rfl rfl rfl ?_ | refine z_tg (j := 0) lX1_161 eX1_carriedBacked_11 rfl hT hA.mo ⟨by decide, by decide⟩ rfl rfl rfl ?_
      rw [hR.1.mo.1]
      refine z_icmp_ge (tgt := 78) eX1_carriedBacked_14 rfl ⟨⟨by omega, by omega⟩, ⟨by omega, by omega⟩⟩ (fun h14 => ?_) (fun h14 => (by exfalso; omega))
      refine z_il3 eX1_carriedBacked_78 ?_
      refine z_ireturn eX1_carriedBacked_79 rfl ?_
      exact zYe hC rfl
    · intro t t0 t1 ih S C y5 hC
      have hR := hR.fc hC
      have z01 := zbit_01 set t
      have hg := qGoO_bd M t 2 (M 6) (qOuts M) (zor (M (74 + 5 * t + 3)) bk)
      rw [show qBackOf M set bk (t + 1) = zor (qBackOf M set bk t) (if zbit set t = 1 ∧ qGoO M t 2 (M 6) (qOuts M) (zor (M (74 + 5 * t + 3)) bk) = 1 then zshl 1 t else 0) from zors_s _ t0] at ih
      have hy : zbit set t = 1 ∧ qGoO M t 2 (M 6) (qOuts M) (zor (M (74 + 5 * t + 3)) bk) = 1 → ∀ (S C : zMem) (y5 : zAV), zFc b σ C0 S C → zW G KX1_carriedBacked 6 (zY' (some (zI (qBackOf M set bk (M 4)))) (fun q C => zFc b σ C0 q C) lay nx x) 5 [zP (x + b), zI set, zI bk, zI (zor (qBackOf M set bk t) (zshl 1 t)), zI (t + 1), y5] [] lay (tC x S C) nx (0, 0) := fun z => by rw [if_pos z] at ih; exact ih
      have hn : ¬ (zbit set t = 1 ∧ qGoO M t 2 (M 6) (qOuts M) (zor (M (74 + 5 * t + 3)) bk) = 1) → ∀ (S C : zMem) (y5 : zAV), zFc b σ C0 S C → zW G KX1_carriedBacked 6 (zY' (some (zI (qBackOf M set bk (M 4)))) (fun q C => zFc b σ C0 q C) lay nx x) 5 [zP (x + b), zI set, zI bk, zI (qBackOf M set bk t), zI (t + 1), y5] [] lay (tC x S C) nx (0, 0) := fun z => by rw [if_neg z, zor_0 (show zin (qBackOf M set bk t) from zors_in _ t0)] at ih; exact ih
      refine z_il4 eX1_carriedBacked_5 ?_
      refine z_al0 eX1_carriedBacked_7 hne ?_
      first | refine z_ta0 lX1_47 eX1_carriedBacked_8 rfl hT hA (by decide) rfl rfl ?_ | refine z_ta lX1_47 eX1_carriedBacked_8 rfl hT hA ⟨by decide, by decide⟩ rfl rfl ?_
      first | refine z_tg0 (j := 0) lX1_161 eX1_carriedBacked_11 rfl hT hA.mo (by decide) rfl rfl rfl ?_ | refine z_tg (j := 0) lX1_161 eX1_carriedBacked_11 rfl hT hA.mo ⟨by decide, by decide⟩ rfl rfl rfl ?_
      rw [hR.1.mo.1]
      refine z_icmp_ge (tgt := 78) eX1_carriedBacked_14 rfl ⟨⟨by omega, by omega⟩, ⟨by omega, by omega⟩⟩ (fun h14 => (by exfalso; omega)) (fun h14 => ?_)
      refine z_al0 eX1_carriedBacked_17 hne ?_
      first | refine z_ta0 lX1_47 eX1_carriedBacked_18 rfl hT hA (by decide) rfl rfl ?_ | refine z_ta lX1_47 eX1_carriedBacked_18 rfl hT hA ⟨by decide, by decide⟩ rfl rfl ?_
      first | refine z_ta0 lX1_155 eX1_carriedBacked_21 rfl hT hA.mo (by decide) rfl rfl ?_ | refine z_ta lX1_155 eX1_carriedBacked_21 rfl hT hA.mo ⟨by decide, by decide⟩ rfl rfl ?_
      refine z_il4 eX1_carriedBacked_24 ?_
      refine z_tl eX1_carriedBacked_26 hT hA.mo ⟨by decide, by decide⟩ rfl rfl ⟨by omega, by omega⟩ ?_
      rw [(hR.1.mo.2.1 t t0 t1).2.2.2.1]
      refine z_il2 eX1_carriedBacked_27 ?_
      refine z_ior eX1_carriedBacked_28 ?_
      refine z_is5 eX1_carriedBacked_29 (Nat.ne_of_beq_eq_false rfl) ?_
      refine z_il1 eX1_carriedBacked_31 ?_
      refine z_il4 eX1_carriedBacked_32 ?_
      refine z_N2 eX1_carriedBacked_34 vX1_101 rfl (Nat.le_of_ble_eq_true rfl) (Nat.le_of_ble_eq_true rfl) (c_X11_bitOf hT ⟨by omega, by omega⟩) ?_
      refine z_iconst eX1_carriedBacked_37 ?_
      refine z_icmp_ne (tgt := 72) eX1_carriedBacked_38 rfl ⟨⟨by omega, by omega⟩, ⟨by omega, by omega⟩⟩ (fun h38 => ?_) (fun h38 => ?_)
      · refine z_ii4 eX1_carriedBacked_72 (Nat.ne_of_beq_eq_false rfl) ?_
        refine z_goto eX1_carriedBacked_75 (tgt := 5) rfl ?_
        first | exact hy ⟨by omega, by omega⟩ _ _ _ h9 | exact hn (by omega) _ _ _ h9 | exact hn (by omega) _ _ _ hC | fail
      · refine z_al0 eX1_carriedBacked_41 hne ?_
        refine z_il4 eX1_carriedBacked_42 ?_
        refine z_iconst eX1_carriedBacked_44 ?_
        refine z_al0 eX1_carriedBacked_45 hne ?_
        first | refine z_ta0 lX1_40 eX1_carriedBacked_46 rfl hT hA (by decide) rfl rfl ?_ | refine z_ta lX1_40 eX1_carriedBacked_46 rfl hT hA ⟨by decide, by decide⟩ rfl rfl ?_
        first | refine z_tg0 (j := 1) lX1_164 eX1_carriedBacked_49 rfl hT hA.we (by decide) rfl rfl rfl ?_ | refine z_tg (j := 1) lX1_164 eX1_carriedBacked_49 rfl hT hA.we ⟨by decide, by decide⟩ rfl rfl rfl ?_
        rw [hR.1.we.1.2.1]
        refine z_al0 eX1_carriedBacked_52 hne ?_
        first | refine z_tg0 (j := 5) lX1_78 eX1_carriedBacked_53 rfl hT hA (by decide) rfl rfl rfl ?_ | refine z_tg (j := 5) lX1_78 eX1_carriedBacked_53 rfl hT hA ⟨by decide, by decide⟩ rfl rfl rfl ?_
        rw [hR.1.ou]
        refine z_il5 eX1_carriedBacked_56 ?_
        refine z_V5y eX1_carriedBacked_58 vX1_158 rfl rfl (Nat.le_of_ble_eq_true rfl) (Nat.le_of_ble_eq_true rfl) ((hA).L0 hT (by decide)) (c_X1_outcome hT hA hR.1 hR.2 hM ⟨by decide, by decide⟩ ⟨t0, t1⟩ ⟨by omega, by omega⟩ ⟨ho.1, by omega⟩) (fun s58 C58 hs58 => ?_)
        have h9 := hC.trans hs58
        refine z_iconst eX1_carriedBacked_61 ?_
        refine z_icmp_ne (tgt := 72) eX1_carriedBacked_62 rfl ⟨⟨by omega, by omega⟩, ⟨by omega, by omega⟩⟩ (fun h62 => ?_) (fun h62 => ?_)
        · refine z_ii4 eX1_carriedBacked_72 (Nat.ne_of_beq_eq_false rfl) ?_
          refine z_goto eX1_carriedBacked_75 (tgt := 5) rfl ?_
          first | exact hy ⟨by omega, by omega⟩ _ _ _ h9 | exact hn (by omega) _ _ _ h9 | exact hn (by omega) _ _ _ hC | fail
        · refine z_il3 eX1_carriedBacked_65 ?_
          refine z_iconst eX1_carriedBacked_66 ?_
          refine z_il4 eX1_carriedBacked_67 ?_
          refine z_ishl eX1_carriedBacked_69 ?_
          refine z_ior eX1_carriedBacked_70 ?_
          refine z_is3 eX1_carriedBacked_71 (Nat.ne_of_beq_eq_false rfl) ?_
          refine z_ii4 eX1_carriedBacked_72 (Nat.ne_of_beq_eq_false rfl) ?_
          refine z_goto eX1_carriedBacked_75 (tgt := 5) rfl ?_
          first | exact hy ⟨by omega, by omega⟩ _ _ _ h9 | exact hn (by omega) _ _ _ h9 | exact hn (by omega) _ _ _ hC | fail
  refine z_iconst eX1_carriedBacked_0 ?_
  refine z_is3 eX1_carriedBacked_1 (Nat.ne_of_beq_eq_false rfl) ?_
  refine z_iconst eX1_carriedBacked_2 ?_
  refine z_is4 eX1_carriedBacked_3 (Nat.ne_of_beq_eq_false rfl) ?_
  exact hl 0 (by decide) hm4.1 _ _ _ (zFc.refl _ _ _)
noncomputable def qCarH (M c : Int → Int) (k h n : Int) : Int := zsum (fun s => if 0 < c s ∧ qGo M k s h = 1 then c s else 0) n
theorem c_X1_carriedThen {G : zG} {lay : zLay} {σ C0 : zMem} {nx x b : Int} (hT : TopL lay x) {k h : Int} {M : Int → Int} (hA : CoAt b) (hR : CoR lay x C0 σ b M) (hM : zOC M) (hc : zCh (σ (b + 4 + 2))) (hk : 0 ≤ k ∧ k < M 4) (hh : 0 ≤ h ∧ h < 12) : zMM G 6 KX1_carriedThen [zP (x + b), zI k, zI h] lay (tC x σ C0) nx (0, 0) (zY' (some (zI (qCarH M (σ (b + 4 + 2)) k h 5))) (fun q C => zFc b σ C0 q C) lay nx x) := by
  refine z_met' (L := [zP (x + b), zI k, zI h, zU, zU, zU]) gX1_carriedThen.1 rfl rfl (Nat.le_of_ble_eq_true rfl) rfl ?_
  have hb0 := hA.b0 (by decide)
  have hx := hT.1
  have hne : x + b ≠ -1 := by omega
  have hI := hM.I
  have hm4 := hI.m4
  have ho := qOuts_256 hM.ol.1
  have hl : ∀ t : Int, 0 ≤ t → t ≤ 5 → ∀ (S C : zMem) (y5 : zAV), zFc b σ C0 S C → zW G KX1_carriedThen 6 (zY' (some (zI (qCarH M (σ (b + 4 + 2)) k h 5))) (fun q C => zFc b σ C0 q C) lay nx x) 5 [zP (x + b), zI k, zI h, zI (qCarH M (σ (b + 4 + 2)) k h t), zI t, y5] [] lay (tC x S C) nx (0, 0) := by
    refine z_up 5 ?_ ?_
    · intro S C y5 hC
      refine z_il4 eX1_carriedThen_5 ?_
      refine z_iconst eX1_carriedThen_7 ?_
      refine z_icmp_ge (tgt := 64) eX1_carriedThen_8 rfl ⟨⟨by omega, by omega⟩, ⟨by omega, by omega⟩⟩ (fun h8 => ?_) (fun h8 => (by exfalso; omega))
      refine z_il3 eX1_carriedThen_64 ?_
      refine z_ireturn eX1_carriedThen_65 rfl ?_
      exact zYe hC rfl
    · intro t t0 t1 ih S C y5 hC
      have hR := hR.fc hC
      have hct := hc.bd t0 t1
      have hg := qGo_bd M k t h
      have e6 : S (b + 4 + 2) = σ (b + 4 + 2) := hC.1 _ (by omega)
      rw [show qCarH M (σ (b + 4 + 2)) k h (t + 1) = qCarH M (σ (b + 4 + 2)) k h t + (if 0 < σ (b + 4 + 2) t ∧ qGo M k t h = 1 then σ (b + 4 + 2) t else 0) from zsum_s _ t0] at ih
      have hy : 0 < σ (b + 4 + 2) t ∧ qGo M k t h = 1 → ∀ (S C : zMem) (y5 : zAV), zFc b σ C0 S C → zW G KX1_carriedThen 6 (zY' (some (zI (qCarH M (σ (b + 4 + 2)) k h 5))) (fun q C => zFc b σ C0 q C) lay nx x) 5 [zP (x + b), zI k, zI h, zI (qCarH M (σ (b + 4 + 2)) k h t + σ (b + 4 + 2) t), zI (t + 1), y5] [] lay (tC x S C) nx (0, 0) := fun z => by rw [if_pos z] at ih; exact ih
      have hn : ¬ (0 < σ (b + 4 + 2) t ∧ qGo M k t h = 1) → ∀ (S C : zMem) (y5 : zAV), zFc b σ C0 S C → zW G KX1_carriedThen 6 (zY' (some (zI (qCarH M (σ (b + 4 + 2)) k h 5))) (fun q C => zFc b σ C0 q C) lay nx x) 5 [zP (x + b), zI k, zI h, zI (qCarH M (σ (b + 4 + 2)) k h t), zI (t + 1), y5] [] lay (tC x S C) nx (0, 0) := fun z => by rw [if_neg z, Int.add_zero] at ih; exact ih
      refine z_il4 eX1_carriedThen_5 ?_
      refine z_iconst eX1_carriedThen_7 ?_
      refine z_icmp_ge (tgt := 64) eX1_carriedThen_8 rfl ⟨⟨by omega, by omega⟩, ⟨by omega, by omega⟩⟩ (fun h8 => (by exfalso; omega)) (fun h8 => ?_)
      refine z_al0 eX1_carriedThen_11 hne ?_
      first | refine z_ta0 lX1_40 eX1_carriedThen_12 rfl hT hA (by decide) rfl rfl ?_ | refine z_ta lX1_40 eX1_carriedThen_12 rfl hT hA ⟨by decide, by decide⟩ rfl rfl ?_
      first | refine z_ta0 lX1_171 eX1_carriedThen_15 rfl hT hA.we (by decide) rfl rfl ?_ | refine z_ta lX1_171 eX1_carriedThen_15 rfl hT hA.we ⟨by decide, by decide⟩ rfl rfl ?_
      refine z_il4 eX1_carriedThen_18 ?_
      refine z_tl eX1_carriedThen_20 hT hA.we ⟨by decide, by decide⟩ rfl rfl ⟨by omega, by omega⟩ ?_
      rw [e6]
      refine z_is5 eX1_carriedThen_21 (Nat.ne_of_beq_eq_false rfl) ?_
      refine z_il5 eX1_carriedThen_23 ?_
      refine z_if_le (tgt := 58) eX1_carriedThen_25 rfl ⟨by omega, by omega⟩ (fun h25 => ?_) (fun h25 => ?_)
      · refine z_ii4 eX1_carriedThen_58 (Nat.ne_of_beq_eq_false rfl) ?_
        refine z_goto eX1_carriedThen_61 (tgt := 5) rfl ?_
        first | exact hy ⟨by omega, by omega⟩ _ _ _ h9 | exact hn (by omega) _ _ _ h9 | exact hn (by omega) _ _ _ hC | fail
      · refine z_al0 eX1_carriedThen_28 hne ?_
        refine z_il1 eX1_carriedThen_29 ?_
        refine z_il4 eX1_carriedThen_30 ?_
        refine z_il2 eX1_carriedThen_32 ?_
        refine z_al0 eX1_carriedThen_33 hne ?_
        first | refine z_tg0 (j := 5) lX1_78 eX1_carriedThen_34 rfl hT hA (by decide) rfl rfl rfl ?_ | refine z_tg (j := 5) lX1_78 eX1_carriedThen_34 rfl hT hA ⟨by decide, by decide⟩ rfl rfl rfl ?_
        rw [hR.1.ou]
        refine z_al0 eX1_carriedThen_37 hne ?_
        first | refine z_ta0 lX1_47 eX1_carriedThen_38 rfl hT hA (by decide) rfl rfl ?_ | refine z_ta lX1_47 eX1_carriedThen_38 rfl hT hA ⟨by decide, by decide⟩ rfl rfl ?_
        first | refine z_ta0 lX1_155 eX1_carriedThen_41 rfl hT hA.mo (by decide) rfl rfl ?_ | refine z_ta lX1_155 eX1_carriedThen_41 rfl hT hA.mo ⟨by decide, by decide⟩ rfl rfl ?_
        refine z_il1 eX1_carriedThen_44 ?_
        refine z_tl eX1_carriedThen_45 hT hA.mo ⟨by decide, by decide⟩ rfl rfl ⟨by omega, by omega⟩ ?_
        rw [(hR.1.mo.2.1 k hk.1 hk.2).2.2.2.1]
        refine z_V5y eX1_carriedThen_46 vX1_158 rfl rfl (Nat.le_of_ble_eq_true rfl) (Nat.le_of_ble_eq_true rfl) ((hA).L0 hT (by decide)) (c_X1_outcome hT hA hR.1 hR.2 hM ⟨t0, t1⟩ hk hh ⟨ho.1, by omega⟩) (fun s46 C46 hs46 => ?_)
        rw [qGoO_q hM.ol.1 (hM.mb hk)]
        have h9 := hC.trans hs46
        refine z_iconst eX1_carriedThen_49 ?_
        refine z_icmp_ne (tgt := 58) eX1_carriedThen_50 rfl ⟨⟨by omega, by omega⟩, ⟨by omega, by omega⟩⟩ (fun h50 => ?_) (fun h50 => ?_)
        · refine z_ii4 eX1_carriedThen_58 (Nat.ne_of_beq_eq_false rfl) ?_
          refine z_goto eX1_carriedThen_61 (tgt := 5) rfl ?_
          first | exact hy ⟨by omega, by omega⟩ _ _ _ h9 | exact hn (by omega) _ _ _ h9 | exact hn (by omega) _ _ _ hC | fail
        · refine z_il3 eX1_carriedThen_53 ?_
          refine z_il5 eX1_carriedThen_54 ?_
          refine z_iadd eX1_carriedThen_56 ?_
          refine z_is3 eX1_carriedThen_57 (Nat.ne_of_beq_eq_false rfl) ?_
          refine z_ii4 eX1_carriedThen_58 (Nat.ne_of_beq_eq_false rfl) ?_
          refine z_goto eX1_carriedThen_61 (tgt := 5) rfl ?_
          first | exact hy ⟨by omega, by omega⟩ _ _ _ h9 | exact hn (by omega) _ _ _ h9 | exact hn (by omega) _ _ _ hC | fail
  refine z_iconst eX1_carriedThen_0 ?_
  refine z_is3 eX1_carriedThen_1 (Nat.ne_of_beq_eq_false rfl) ?_
  refine z_iconst eX1_carriedThen_2 ?_
  refine z_is4 eX1_carriedThen_3 (Nat.ne_of_beq_eq_false rfl) ?_
  exact hl 0 (by decide) (by decide) _ _ _ (zFc.refl _ _ _)
noncomputable def qWetS (M : Int → Int) (p n : Int) : Int := zors (fun t => if 0 < qFelt M p t (-1) (M 6) then zshl 1 t else 0) n
theorem c_X1_wettingSkies {G : zG} {lay : zLay} {σ C0 : zMem} {nx x b : Int} (hT : TopL lay x) {p : Int} {M : Int → Int} (hA : CoAt b) (hR : CoR lay x C0 σ b M) (hM : zOC M) (hp : 0 ≤ p ∧ p < M 3) : zMM G 5 KX1_wettingSkies [zP (x + b), zI p] lay (tC x σ C0) nx (0, 0) (zY' (some (zI (qWetS M p 5))) (fun q C => zFc b σ C0 q C) lay nx x) := by
  refine z_met' (L := [zP (x + b), zI p, zU, zU]) gX1_wettingSkies.1 rfl rfl (Nat.le_of_ble_eq_true rfl) rfl ?_
  have hb0 := hA.b0 (by decide)
  have hx := hT.1
  have hne : x + b ≠ -1 := by omega
  have hI := hM.I
  have h6 := hI.s 6 rfl (by omega)
  have hl : ∀ t : Int, 0 ≤ t → t ≤ 5 → ∀ (S C : zMem), zFc b σ C0 S C → zW G KX1_wettingSkies 5 (zY' (some (zI (qWetS M p 5))) (fun q C => zFc b σ C0 q C) lay nx x) 4 [zP (x + b), zI p, zI (qWetS M p t), zI t] [] lay (tC x S C) nx (0, 0) := by
    refine z_up 5 ?_ ?_
    · intro S C hC
      refine z_il3 eX1_wettingSkies_4 ?_
      refine z_iconst eX1_wettingSkies_5 ?_
      refine z_icmp_ge (tgt := 42) eX1_wettingSkies_6 rfl ⟨⟨by omega, by omega⟩, ⟨by omega, by omega⟩⟩ (fun h6 => ?_) (fun h6 => (by exfalso; omega))
      refine z_il2 eX1_wettingSkies_42 ?_
      refine z_ireturn eX1_wettingSkies_43 rfl ?_
      exact zYe hC rfl
    · intro t t0 t1 ih S C hC
      have hR := hR.fc hC
      have hg := qFelt_bd M p t (-1) (M 6)
      rw [show qWetS M p (t + 1) = zor (qWetS M p t) (if 0 < qFelt M p t (-1) (M 6) then zshl 1 t else 0) from zors_s _ t0] at ih
      refine z_il3 eX1_wettingSkies_4 ?_
      refine z_iconst eX1_wettingSkies_5 ?_
      refine z_icmp_ge (tgt := 42) eX1_wettingSkies_6 rfl ⟨⟨by omega, by omega⟩, ⟨by omega, by omega⟩⟩ (fun h6 => (by exfalso; omega)) (fun h6 => ?_)
      refine z_al0 eX1_wettingSkies_9 hne ?_
      refine z_il1 eX1_wettingSkies_10 ?_
      refine z_il3 eX1_wettingSkies_11 ?_
      refine z_iconst eX1_wettingSkies_12 ?_
      refine z_al0 eX1_wettingSkies_13 hne ?_
      first | refine z_ta0 lX1_40 eX1_wettingSkies_14 rfl hT hA (by decide) rfl rfl ?_ | refine z_ta lX1_40 eX1_wettingSkies_14 rfl hT hA ⟨by decide, by decide⟩ rfl rfl ?_
      first | refine z_tg0 (j := 1) lX1_164 eX1_wettingSkies_17 rfl hT hA.we (by decide) rfl rfl rfl ?_ | refine z_tg (j := 1) lX1_164 eX1_wettingSkies_17 rfl hT hA.we ⟨by decide, by decide⟩ rfl rfl rfl ?_
      rw [hR.1.we.1.2.1]
      refine z_al0 eX1_wettingSkies_20 hne ?_
      first | refine z_tg0 (j := 5) lX1_78 eX1_wettingSkies_21 rfl hT hA (by decide) rfl rfl rfl ?_ | refine z_tg (j := 5) lX1_78 eX1_wettingSkies_21 rfl hT hA ⟨by decide, by decide⟩ rfl rfl rfl ?_
      rw [hR.1.ou]
      refine z_V5y eX1_wettingSkies_24 vX1_147 rfl rfl (Nat.le_of_ble_eq_true rfl) (Nat.le_of_ble_eq_true rfl) ((hA).L0 hT (by decide)) (c_X1_feels hT hA hR.1 hR.2 hM.ol hp ⟨t0, t1⟩ (Or.inl rfl) ⟨by omega, by omega⟩) (fun s24 C24 hs24 => ?_)
      rw [qFeltO_q hM.ol.1 hp]
      have h9 := hC.trans hs24
      refine z_if_le (tgt := 36) eX1_wettingSkies_27 rfl ⟨by omega, by omega⟩ (fun h27 => ?_) (fun h27 => ?_)
      · refine z_ii3 eX1_wettingSkies_36 (Nat.ne_of_beq_eq_false rfl) ?_
        refine z_goto eX1_wettingSkies_39 (tgt := 4) rfl ?_
        first | (rw [if_pos (by omega)] at ih; exact ih _ _ h9) | (rw [if_neg (by omega), zor_0 (show zin (qWetS M p t) from zors_in _ t0)] at ih; exact ih _ _ h9) | fail
      · refine z_il2 eX1_wettingSkies_30 ?_
        refine z_iconst eX1_wettingSkies_31 ?_
        refine z_il3 eX1_wettingSkies_32 ?_
        refine z_ishl eX1_wettingSkies_33 ?_
        refine z_ior eX1_wettingSkies_34 ?_
        refine z_is2 eX1_wettingSkies_35 (Nat.ne_of_beq_eq_false rfl) ?_
        refine z_ii3 eX1_wettingSkies_36 (Nat.ne_of_beq_eq_false rfl) ?_
        refine z_goto eX1_wettingSkies_39 (tgt := 4) rfl ?_
        first | (rw [if_pos (by omega)] at ih; exact ih _ _ h9) | (rw [if_neg (by omega), zor_0 (show zin (qWetS M p t) from zors_in _ t0)] at ih; exact ih _ _ h9) | fail
  refine z_iconst eX1_wettingSkies_0 ?_
  refine z_is2 eX1_wettingSkies_1 (Nat.ne_of_beq_eq_false rfl) ?_
  refine z_iconst eX1_wettingSkies_2 ?_
  refine z_is3 eX1_wettingSkies_3 (Nat.ne_of_beq_eq_false rfl) ?_
  exact hl 0 (by decide) (by decide) _ _ (zFc.refl _ _ _)
