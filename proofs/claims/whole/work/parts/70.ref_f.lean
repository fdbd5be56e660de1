/-! Chances, asked. -/
def qCh0 (M : Int → Int) : Int → Int := fun t => if t = M 5 then 10000 else 0
def qCh (M : Int → Int) (n : Int) : Int → Int := zfold (fun _ c => qGoC M c) (qCh0 M) n
theorem qCh0_ok {M : Int → Int} (hM : zOK M) : zCh (qCh0 M) := by
  have h5 := hM.1.s 5 rfl (by omega)
  refine ⟨fun s _ _ => by unfold qCh0; split <;> omega, ?_⟩
  rw [zsum_5]
  unfold qCh0
  have : M 5 = 0 ∨ M 5 = 1 ∨ M 5 = 2 ∨ M 5 = 3 ∨ M 5 = 4 := by omega
  rcases this with e | e | e | e | e <;> rw [e] <;> simp
theorem qCh_ok {M : Int → Int} (hM : zOK M) {n : Int} (hn : 0 ≤ n) : zCh (qCh M n) := by
  unfold qCh
  exact zfold_P (f := fun _ c => qGoC M c) (P := fun _ c => zCh c) (s := qCh0 M) (qCh0_ok hM) (fun _ _ _ h => (qGoC_ok hM h).1) n hn
theorem zCh.c {c c' : Int → Int} (h : zCh c) (e : ∀ t, 0 ≤ t → t < 5 → c' t = c t) : zCh c' := by
  refine ⟨fun s s0 s1 => by rw [e s s0 s1]; exact h.1 s s0 s1, ?_⟩
  rw [zsum_congr (f := c') (g := c) e]
  exact h.2
theorem m_X12_chancesBegin {G : zG} {lay : zLay} {σ C0 : zMem} {nx x : Int} (hR : RefL lay x) (hJ : zJs σ) (hM : zOK (σ 1)) : zMM G 1 KX12_chancesBegin [zP x] lay (rC x σ C0) nx (0, 0) (zX' none (fun q => zScw σ q ∧ ∀ t, 0 ≤ t → t < 5 → q 7 t = qCh0 (σ 1) t) lay C0 nx x) := by
  refine z_met' (L := [zP x, zU]) gX12_chancesBegin.1 rfl rfl (Nat.le_of_ble_eq_true rfl) rfl ?_
  have h5 := hM.1.s 5 rfl (by omega)
  have hl : ∀ n : Int, 0 ≤ n → n ≤ 5 → ∀ K : Int → Int, (∀ t, 0 ≤ t → t < n → K t = qCh0 (σ 1) t) → zW G KX12_chancesBegin 1 (zX' none (fun q => zScw σ q ∧ ∀ t, 0 ≤ t → t < 5 → q 7 t = qCh0 (σ 1) t) lay C0 nx x) 2 [zP x, zI n] [] lay (rC x (zRow σ 7 K) C0) nx (0, 0) := by
    refine z_up 5 ?_ ?_
    · intro K hK
      refine z_il1 eX12_chancesBegin_2 ?_
      refine z_iconst eX12_chancesBegin_3 ?_
      refine z_icmp_ge (tgt := 36) eX12_chancesBegin_4 rfl ⟨⟨by omega, by omega⟩, ⟨by omega, by omega⟩⟩ (fun h4 => ?_) (fun h4 => (by exfalso; omega))
      refine z_return eX12_chancesBegin_36 rfl ?_
      exact zXv ⟨(zScw.refl hJ).row (by decide), fun t t0 t1 => by rw [zRow_e]; exact hK t t0 t1⟩
    · intro n n0 n1 ih K hK
      have hq : qCh0 (σ 1) n = if n = σ 1 5 then 10000 else 0 := rfl
      refine z_il1 eX12_chancesBegin_2 ?_
      refine z_iconst eX12_chancesBegin_3 ?_
      refine z_icmp_ge (tgt := 36) eX12_chancesBegin_4 rfl ⟨⟨by omega, by omega⟩, ⟨by omega, by omega⟩⟩ (fun h4 => (by exfalso; omega)) (fun h4 => ?_)
      refine z_al0 eX12_chancesBegin_7 hR.ne ?_
      refine z_ra lX12_32 eX12_chancesBegin_8 rfl hR rfl ?_
      try rw [zR71]
      refine z_il1 eX12_chancesBegin_11 ?_
      refine z_il1 eX12_chancesBegin_12 ?_
      refine z_al0 eX12_chancesBegin_13 hR.ne ?_
      refine z_ra lX12_7 eX12_chancesBegin_14 rfl hR rfl ?_
      try rw [zR71]
      refine z_iconst eX12_chancesBegin_17 ?_
      refine z_rl eX12_chancesBegin_18 hR (by decide) rfl rfl ⟨by omega, by omega⟩ ?_
      try rw [zR71]
      refine z_icmp_ne (tgt := 28) eX12_chancesBegin_19 rfl ⟨⟨by omega, by omega⟩, ⟨by omega, by omega⟩⟩ (fun h19 => ?_) (fun h19 => ?_)
      · refine z_iconst eX12_chancesBegin_28 ?_
        refine z_rs eX12_chancesBegin_29 hR (by decide) rfl rfl ⟨by omega, by omega⟩ ?_
        try rw [zRow_put]
        refine z_ii1 eX12_chancesBegin_30 (Nat.ne_of_beq_eq_false rfl) ?_
        refine z_goto eX12_chancesBegin_33 (tgt := 2) rfl ?_
        first | (rw [if_pos h19] at hq; rw [← hq]; exact ih _ (zput_lt hK)) | (rw [if_neg h19] at hq; have e := ih _ (zput_lt hK); rw [hq] at e; exact e) | fail
      · refine z_sipush eX12_chancesBegin_22 (by decide) ?_
        refine z_goto eX12_chancesBegin_25 (tgt := 29) rfl ?_
        refine z_rs eX12_chancesBegin_29 hR (by decide) rfl rfl ⟨by omega, by omega⟩ ?_
        try rw [zRow_put]
        refine z_ii1 eX12_chancesBegin_30 (Nat.ne_of_beq_eq_false rfl) ?_
        refine z_goto eX12_chancesBegin_33 (tgt := 2) rfl ?_
        first | (rw [if_pos h19] at hq; rw [← hq]; exact ih _ (zput_lt hK)) | (rw [if_neg h19] at hq; have e := ih _ (zput_lt hK); rw [hq] at e; exact e) | fail
  have h0 := hl 0 (by decide) (by decide) (σ 7) (fun t t0 t1 => by omega)
  rw [zRow_self] at h0
  refine z_iconst eX12_chancesBegin_0 ?_
  refine z_is1 eX12_chancesBegin_1 (Nat.ne_of_beq_eq_false rfl) ?_
  exact h0
theorem m_X12_chancesIn {G : zG} {lay : zLay} {σ C0 : zMem} {nx x : Int} {n : Int} (hR : RefL lay x) (hJ : zJs σ) (hM : zOK (σ 1)) (hn : 0 ≤ n ∧ n ≤ 24) : zMM G 4 KX12_chancesIn [zP x, zI n] lay (rC x σ C0) nx (0, 0) (zX' none (fun q => zScw σ q ∧ ∀ t, 0 ≤ t → t < 5 → q 7 t = qCh (σ 1) n t) lay C0 nx x) := by
  refine z_met' (L := [zP x, zI n, zU]) gX12_chancesIn.1 rfl rfl (Nat.le_of_ble_eq_true rfl) rfl ?_
  have hl : ∀ i : Int, 0 ≤ i → i ≤ n → ∀ S : zMem, zScw σ S → (∀ t, 0 ≤ t → t < 5 → S 7 t = qCh (σ 1) i t) → zW G KX12_chancesIn 4 (zX' none (fun q => zScw σ q ∧ ∀ t, 0 ≤ t → t < 5 → q 7 t = qCh (σ 1) n t) lay C0 nx x) 6 [zP x, zI n, zI i] [] lay (rC x S C0) nx (0, 0) := by
    refine z_up n ?_ ?_
    · intro S hS h7
      refine z_il2 eX12_chancesIn_6 ?_
      refine z_il1 eX12_chancesIn_7 ?_
      refine z_icmp_ge (tgt := 21) eX12_chancesIn_8 rfl ⟨⟨by omega, by omega⟩, ⟨by omega, by omega⟩⟩ (fun h8 => ?_) (fun h8 => (by exfalso; omega))
      refine z_return eX12_chancesIn_21 rfl ?_
      exact zXv ⟨hS, h7⟩
    · intro i i0 i1 ih S hS h7
      have hc := (qCh_ok hM i0).c h7
      have e : qCh (σ 1) (i + 1) = qGoC (σ 1) (qCh (σ 1) i) := by unfold qCh; rw [zfold_s _ _ i0]
      refine z_il2 eX12_chancesIn_6 ?_
      refine z_il1 eX12_chancesIn_7 ?_
      refine z_icmp_ge (tgt := 21) eX12_chancesIn_8 rfl ⟨⟨by omega, by omega⟩, ⟨by omega, by omega⟩⟩ (fun h8 => (by exfalso; omega)) (fun h8 => ?_)
      refine z_al0 eX12_chancesIn_11 hR.ne ?_
      refine z_V0vx eX12_chancesIn_12 vX12_351 rfl rfl (Nat.le_of_ble_eq_true rfl) (Nat.le_of_ble_eq_true rfl) hR.x (m_X12_chancesGo hR hS.2.2 (by rw [hS.r1]; exact hM) hc) (fun s12 hs12 => ?_)
      refine z_ii2 eX12_chancesIn_15 (Nat.ne_of_beq_eq_false rfl) ?_
      refine z_goto eX12_chancesIn_18 (tgt := 6) rfl ?_
      refine ih s12 (hS.trans hs12.1) (fun t t0 t1 => ?_)
      rw [hs12.2 t t0 t1, e, hS.r1]
      exact qGoC_c h7 t
  refine z_al0 eX12_chancesIn_0 hR.ne ?_
  refine z_V0vx eX12_chancesIn_1 vX12_348 rfl rfl (Nat.le_of_ble_eq_true rfl) (Nat.le_of_ble_eq_true rfl) hR.x (m_X12_chancesBegin hR hJ hM) (fun s1 hs1 => ?_)
  refine z_iconst eX12_chancesIn_4 ?_
  refine z_is2 eX12_chancesIn_5 (Nat.ne_of_beq_eq_false rfl) ?_
  exact hl 0 (by decide) hn.1 s1 hs1.1 hs1.2
theorem m_X12_chance {G : zG} {lay : zLay} {σ C0 : zMem} {nx x : Int} {s n : Int} (hR : RefL lay x) (hJ : zJs σ) (hM : zOL (σ 1)) (hs : zin s) (hn : zin n) : zMM G 5 KX12_chance [zP x, zI s, zI n] lay (rC x σ C0) nx (0, 0) (zX' (some (zI (if qThr2 (0 ≤ s ∧ s < 5) (0 ≤ n ∧ n ≤ 24) = 0 then qCh (σ 1) n s else 0))) (zScw (zset σ 0 0 (qThr2 (0 ≤ s ∧ s < 5) (0 ≤ n ∧ n ≤ 24)))) lay C0 nx x) := by
  refine z_met' (L := [zP x, zI s, zI n]) gX12_chance.1 rfl rfl (Nat.le_of_ble_eq_true rfl) rfl ?_
  obtain ⟨s1, s2⟩ := hs
  obtain ⟨n1, n2⟩ := hn
  have hJ1 : ∀ v, zJs (zset σ 0 0 v) := fun v => hJ.set (by decide) (fun _ => Or.inl rfl)
  refine z_al0 eX12_chance_0 hR.ne ?_
  refine z_il1 eX12_chance_1 ?_
  refine z_S1 eX12_chance_2 vX12_329 rfl rfl (Nat.le_of_ble_eq_true rfl) (Nat.le_of_ble_eq_true rfl) (m_X12_isSky ⟨by omega, by omega⟩) ?_
  refine z_ifb_ne (tgt := 12) eX12_chance_5 rfl (fun h5 => ?_) (fun h5 => ?_)
  · refine z_il2 eX12_chance_12 ?_
    refine z_iconst eX12_chance_13 ?_
    refine z_bipush eX12_chance_14 (by decide) ?_
    refine z_S3 eX12_chance_16 vX12_51 rfl rfl (Nat.le_of_ble_eq_true rfl) (Nat.le_of_ble_eq_true rfl) (m_X12_isIn (by refine ⟨?_, ?_, ?_⟩ <;> first | omega | decide | assumption)) ?_
    refine z_ifb_ne (tgt := 26) eX12_chance_19 rfl (fun h19 => ?_) (fun h19 => ?_)
    · refine z_iconst eX12_chance_26 ?_
      refine z_rp (j := 0) lX12_48 eX12_chance_27 rfl hR rfl rfl ?_
      refine z_al0 eX12_chance_30 hR.ne ?_
      refine z_rg (j := 0) lX12_48 eX12_chance_31 rfl hR rfl rfl ?_
      rw [zset_eq]
      refine z_if_le (tgt := 39) eX12_chance_34 rfl ⟨by omega, by omega⟩ (fun h34 => ?_) (fun h34 => (by exfalso; omega))
      refine z_al0 eX12_chance_39 hR.ne ?_
      refine z_il2 eX12_chance_40 ?_
      refine z_V1vx eX12_chance_41 vX12_354 rfl rfl (Nat.le_of_ble_eq_true rfl) (Nat.le_of_ble_eq_true rfl) hR.x (m_X12_chancesIn hR (hJ1 _) (by rw [zset_001]; exact hM.1) ⟨by omega, by omega⟩) (fun s41 hs41 => ?_)
      refine z_al0 eX12_chance_44 hR.ne ?_
      refine z_ra lX12_32 eX12_chance_45 rfl hR rfl ?_
      refine z_il1 eX12_chance_48 ?_
      refine z_rl eX12_chance_49 hR (by decide) rfl rfl ⟨by omega, by omega⟩ ?_
      first | rw [hs41.r1] | rw [hs41.r7] | rw [hs41.r8] | rw [hs41.r5] | rw [hs41.r9] | rw [hs41.r11] | skip
      refine z_ireturn eX12_chance_50 rfl ?_
      first | (rw [qThr2_0 (by omega) (by omega), if_pos rfl]; exact zXe hs41.1 (by have := hs41.2 s (by omega) (by omega); rw [zset_001] at this; exact this)) | (rw [qThr2_1 (by omega), if_neg (by decide)]; exact zXe (zScw.refl (hJ1 _)) rfl) | (rw [qThr2_2 (by omega) (by omega), if_neg (by decide)]; exact zXe (zScw.refl (hJ1 _)) rfl)
    · refine z_iconst eX12_chance_22 ?_
      refine z_goto eX12_chance_23 (tgt := 27) rfl ?_
      refine z_rp (j := 0) lX12_48 eX12_chance_27 rfl hR rfl rfl ?_
      refine z_al0 eX12_chance_30 hR.ne ?_
      refine z_rg (j := 0) lX12_48 eX12_chance_31 rfl hR rfl rfl ?_
      rw [zset_eq]
      refine z_if_le (tgt := 39) eX12_chance_34 rfl ⟨by omega, by omega⟩ (fun h34 => (by exfalso; omega)) (fun h34 => ?_)
      refine z_iconst eX12_chance_37 ?_
      refine z_ireturn eX12_chance_38 rfl ?_
      first | (rw [qThr2_0 (by omega) (by omega), if_pos rfl]; exact zXe hs41.1 (by have := hs41.2 s (by omega) (by omega); rw [zset_001] at this; exact this)) | (rw [qThr2_1 (by omega), if_neg (by decide)]; exact zXe (zScw.refl (hJ1 _)) rfl) | (rw [qThr2_2 (by omega) (by omega), if_neg (by decide)]; exact zXe (zScw.refl (hJ1 _)) rfl)
  · refine z_iconst eX12_chance_8 ?_
    refine z_goto eX12_chance_9 (tgt := 27) rfl ?_
    refine z_rp (j := 0) lX12_48 eX12_chance_27 rfl hR rfl rfl ?_
    refine z_al0 eX12_chance_30 hR.ne ?_
    refine z_rg (j := 0) lX12_48 eX12_chance_31 rfl hR rfl rfl ?_
    rw [zset_eq]
    refine z_if_le (tgt := 39) eX12_chance_34 rfl ⟨by omega, by omega⟩ (fun h34 => (by exfalso; omega)) (fun h34 => ?_)
    refine z_iconst eX12_chance_37 ?_
    refine z_ireturn eX12_chance_38 rfl ?_
    first | (rw [qThr2_0 (by omega) (by omega), if_pos rfl]; exact zXe hs41.1 (by have := hs41.2 s (by omega) (by omega); rw [zset_001] at this; exact this)) | (rw [qThr2_1 (by omega), if_neg (by decide)]; exact zXe (zScw.refl (hJ1 _)) rfl) | (rw [qThr2_2 (by omega) (by omega), if_neg (by decide)]; exact zXe (zScw.refl (hJ1 _)) rfl)
/-- how likely a motion is carried in the n-th hour from now -/
noncomputable def qCar (M : Int → Int) (k n : Int) : Int := zsum (fun s => if 0 < qCh M n s ∧ qGo M k s ((M 6 + n - 1) % 12) = 1 then qCh M n s else 0) 5
theorem qCar_bd {M : Int → Int} (hM : zOK M) (k : Int) {n : Int} (hn : 0 ≤ n) : 0 ≤ qCar M k n ∧ qCar M k n ≤ 50000 := by
  have hc := qCh_ok hM hn
  have := zsum_bnd (f := fun s => if 0 < qCh M n s ∧ qGo M k s ((M 6 + n - 1) % 12) = 1 then qCh M n s else 0) (c := 10000) (n := 5) (by decide) (fun t t0 t1 => by
    have := hc.bd t0 t1
    split <;> omega)
  unfold qCar
  omega
theorem m_X12_carriesIn {G : zG} {lay : zLay} {σ C0 : zMem} {nx x : Int} {k n : Int} (hR : RefL lay x) (hS : TxS lay C0) (hJ : zJs σ) (hM : zOL (σ 1)) (hk : 0 ≤ k ∧ k < 8) (hn : 1 ≤ n ∧ n ≤ 24) : zMM G 68 KX12_carriesIn [zP x, zI k, zI n] lay (rC x σ C0) nx (0, 0) (zX' (some (zI (qCar (σ 1) k n))) (zScw σ) lay C0 nx x) := by
  refine z_met' (L := [zP x, zI k, zI n, zU, zU]) gX12_carriesIn.1 rfl rfl (Nat.le_of_ble_eq_true rfl) rfl ?_
  have h6 := hM.1.1.s 6 rfl (by omega)
  have hc := qCh_ok hM.1 (n := n) (by omega)
  have hl : ∀ t : Int, 0 ≤ t → t ≤ 5 → ∀ S : zMem, zScw σ S → (∀ t, 0 ≤ t → t < 5 → S 7 t = qCh (σ 1) n t) → zW G KX12_carriesIn 68 (zX' (some (zI (qCar (σ 1) k n))) (zScw σ) lay C0 nx x) 10 [zP x, zI k, zI n, zI (zsum (fun s => if 0 < qCh (σ 1) n s ∧ qGo (σ 1) k s ((σ 1 6 + n - 1) % 12) = 1 then qCh (σ 1) n s else 0) t), zI t] [] lay (rC x S C0) nx (0, 0) := by
    refine z_up 5 ?_ ?_
    · intro S hSc h7
      refine z_il4 eX12_carriesIn_10 ?_
      refine z_iconst eX12_carriesIn_12 ?_
      refine z_icmp_ge (tgt := 71) eX12_carriesIn_13 rfl ⟨⟨by omega, by omega⟩, ⟨by omega, by omega⟩⟩ (fun h13 => ?_) (fun h13 => (by exfalso; omega))
      refine z_il3 eX12_carriesIn_71 ?_
      refine z_ireturn eX12_carriesIn_72 rfl ?_
      exact zXe hSc rfl
    · intro t t0 t1 ih S hSc h7
      rw [zsum_s _ t0] at ih
      have h7t := h7 t t0 t1
      have hct := hc.bd t0 t1
      have hg := qGo_bd (σ 1) k t ((σ 1 6 + n - 1) % 12)
      refine z_il4 eX12_carriesIn_10 ?_
      refine z_iconst eX12_carriesIn_12 ?_
      refine z_icmp_ge (tgt := 71) eX12_carriesIn_13 rfl ⟨⟨by omega, by omega⟩, ⟨by omega, by omega⟩⟩ (fun h13 => (by exfalso; omega)) (fun h13 => ?_)
      refine z_il3 eX12_carriesIn_16 ?_
      refine z_al0 eX12_carriesIn_17 hR.ne ?_
      refine z_ra lX12_32 eX12_carriesIn_18 rfl hR rfl ?_
      refine z_il4 eX12_carriesIn_21 ?_
      refine z_rl eX12_carriesIn_23 hR (by decide) rfl rfl ⟨by omega, by omega⟩ ?_
      first | rw [hSc.r1] | rw [hSc.r7] | rw [hSc.r8] | rw [hSc.r5] | rw [hSc.r9] | rw [hSc.r11] | skip
      rw [h7t]
      refine z_if_le (tgt := 62) eX12_carriesIn_24 rfl ⟨by omega, by omega⟩ (fun h24 => ?_) (fun h24 => ?_)
      · refine z_iconst eX12_carriesIn_62 ?_
        refine z_iadd eX12_carriesIn_63 ?_
        refine z_is3 eX12_carriesIn_64 (Nat.ne_of_beq_eq_false rfl) ?_
        refine z_ii4 eX12_carriesIn_65 (Nat.ne_of_beq_eq_false rfl) ?_
        refine z_goto eX12_carriesIn_68 (tgt := 10) rfl ?_
        first | (rw [if_pos ⟨by omega, by omega⟩] at ih; exact ih _ hs45 (fun t t0 t1 => by rw [h745]; exact h7 t t0 t1)) | (rw [if_neg (by omega)] at ih; exact ih _ hs45 (fun t t0 t1 => by rw [h745]; exact h7 t t0 t1)) | (rw [if_neg (by omega)] at ih; exact ih _ hSc h7) | fail
      · refine z_al0 eX12_carriesIn_27 hR.ne ?_
        refine z_il1 eX12_carriesIn_28 ?_
        refine z_il4 eX12_carriesIn_29 ?_
        refine z_al0 eX12_carriesIn_31 hR.ne ?_
        refine z_ra lX12_7 eX12_carriesIn_32 rfl hR rfl ?_
        refine z_bipush eX12_carriesIn_35 (by decide) ?_
        refine z_rl eX12_carriesIn_37 hR (by decide) rfl rfl ⟨by omega, by omega⟩ ?_
        first | rw [hSc.r1] | rw [hSc.r7] | rw [hSc.r8] | rw [hSc.r5] | rw [hSc.r9] | rw [hSc.r11] | skip
        refine z_il2 eX12_carriesIn_38 ?_
        refine z_iadd eX12_carriesIn_39 ?_
        refine z_iconst eX12_carriesIn_40 ?_
        refine z_isub eX12_carriesIn_41 ?_
        refine z_bipush eX12_carriesIn_42 (by decide) ?_
        refine z_irem eX12_carriesIn_44 ⟨by omega, by omega, by omega, by omega⟩ ?_
        refine z_V3x eX12_carriesIn_45 vX12_294 rfl rfl (Nat.le_of_ble_eq_true rfl) (Nat.le_of_ble_eq_true rfl) hR.x (m_X12_goesIn hR hS hSc.2.2 (by rw [hSc.r1]; exact hM) ⟨by omega, by omega⟩ ⟨by omega, by omega⟩ ⟨by omega, by omega⟩) (fun s45 hs45 => ?_)
        have h745 := hs45.r7
        replace hs45 := hs45.w
        replace hs45 := hSc.trans hs45
        try rw [hSc.r1]
        refine z_iconst eX12_carriesIn_48 ?_
        refine z_icmp_ne (tgt := 62) eX12_carriesIn_49 rfl ⟨⟨by omega, by omega⟩, ⟨by omega, by omega⟩⟩ (fun h49 => ?_) (fun h49 => ?_)
        · refine z_iconst eX12_carriesIn_62 ?_
          refine z_iadd eX12_carriesIn_63 ?_
          refine z_is3 eX12_carriesIn_64 (Nat.ne_of_beq_eq_false rfl) ?_
          refine z_ii4 eX12_carriesIn_65 (Nat.ne_of_beq_eq_false rfl) ?_
          refine z_goto eX12_carriesIn_68 (tgt := 10) rfl ?_
          first | (rw [if_pos ⟨by omega, by omega⟩] at ih; exact ih _ hs45 (fun t t0 t1 => by rw [h745]; exact h7 t t0 t1)) | (rw [if_neg (by omega)] at ih; exact ih _ hs45 (fun t t0 t1 => by rw [h745]; exact h7 t t0 t1)) | (rw [if_neg (by omega)] at ih; exact ih _ hSc h7) | fail
        · refine z_al0 eX12_carriesIn_52 hR.ne ?_
          refine z_ra lX12_32 eX12_carriesIn_53 rfl hR rfl ?_
          refine z_il4 eX12_carriesIn_56 ?_
          refine z_rl eX12_carriesIn_58 hR (by decide) rfl rfl ⟨by omega, by omega⟩ ?_
          first | rw [hs45.r1] | rw [hs45.r7] | rw [hs45.r8] | rw [hs45.r5] | rw [hs45.r9] | rw [hs45.r11] | skip
          rw [h745, h7t]
          refine z_goto eX12_carriesIn_59 (tgt := 63) rfl ?_
          refine z_iadd eX12_carriesIn_63 ?_
          refine z_is3 eX12_carriesIn_64 (Nat.ne_of_beq_eq_false rfl) ?_
          refine z_ii4 eX12_carriesIn_65 (Nat.ne_of_beq_eq_false rfl) ?_
          refine z_goto eX12_carriesIn_68 (tgt := 10) rfl ?_
          first | (rw [if_pos ⟨by omega, by omega⟩] at ih; exact ih _ hs45 (fun t t0 t1 => by rw [h745]; exact h7 t t0 t1)) | (rw [if_neg (by omega)] at ih; exact ih _ hs45 (fun t t0 t1 => by rw [h745]; exact h7 t t0 t1)) | (rw [if_neg (by omega)] at ih; exact ih _ hSc h7) | fail
  refine z_al0 eX12_carriesIn_0 hR.ne ?_
  refine z_il2 eX12_carriesIn_1 ?_
  refine z_V1vx eX12_carriesIn_2 vX12_354 rfl rfl (Nat.le_of_ble_eq_true rfl) (Nat.le_of_ble_eq_true rfl) hR.x (m_X12_chancesIn hR hJ hM.1 ⟨by omega, by omega⟩) (fun s2 hs2 => ?_)
  refine z_iconst eX12_carriesIn_5 ?_
  refine z_is3 eX12_carriesIn_6 (Nat.ne_of_beq_eq_false rfl) ?_
  refine z_iconst eX12_carriesIn_7 ?_
  refine z_is4 eX12_carriesIn_8 (Nat.ne_of_beq_eq_false rfl) ?_
  exact hl 0 (by decide) (by decide) s2 hs2.1 hs2.2
