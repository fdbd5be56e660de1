/-! Cuffs. -/
/-- the tape's rows are such -/
def qCuffs (T M : Int → Int) (n : Int) : Prop := (n % 3 = 0 ∧ n ≤ 45) ∧ ∀ j, 0 ≤ j → 3 * j < n → T (3 * j) < 12 ∧ T (3 * j + 1) < M 3 ∧ T (3 * j + 2) < 2
/-- a row of the tape is one of cuffs -/
def T3 (σ : zMem) (j : Int) : Prop := σ 5 (3 * j) < 12 ∧ σ 5 (3 * j + 1) < σ 1 3 ∧ σ 5 (3 * j + 2) < 2
theorem zbi_iff {p q : Prop} (h : p ↔ q) : zbi p = zbi q := by rw [propext h]
theorem m_X12_areCuffs {G : zG} {lay : zLay} {σ C0 : zMem} {nx x : Int} {n : Int} (hR : RefL lay x) (hn : 0 ≤ n ∧ n ≤ 400) (hT : ∀ k, 0 ≤ k → k < 400 → 0 ≤ σ 5 k ∧ σ 5 k ≤ 255) (hm : 0 ≤ σ 1 3 ∧ σ 1 3 ≤ 7) : zMM G 1 KX12_areCuffs [zP x, zI n] lay (rC x σ C0) nx (0, 0) (zR (some (zI (zbi (qCuffs (σ 5) (σ 1) n)))) lay (rC x (σ) C0) nx) := by
  refine z_met' (L := [zP x, zI n, zU, zU]) gX12_areCuffs.1 rfl rfl (Nat.le_of_ble_eq_true rfl) rfl ?_
  have w81 : ∀ (g : Int) (i : Int) (p : Prop), g = zbi p → (p ↔ qCuffs (σ 5) (σ 1) n) → zW G KX12_areCuffs 1 (zR (some (zI (zbi (qCuffs (σ 5) (σ 1) n)))) lay (rC x σ C0) nx) 81 [zP x, zI n, zI g, zI i] [] lay (rC x σ C0) nx (0, 0) := by
    intro g i p hg hp
    subst hg
    refine z_il2 eX12_areCuffs_81 ?_
    refine z_zreturn eX12_areCuffs_82 rfl (by first | exact Or.inl rfl | exact Or.inr rfl | exact zbi_01 _ | assumption | omega) ?_
    rw [zbi_iff hp]; exact ⟨rfl, rfl, rfl, rfl⟩
  have w20 : ∀ (m : Nat) (i g : Int) (p : Prop), g = zbi p → n - 3 * i ≤ m → 0 ≤ i → 3 * i ≤ n + 2 → (p ↔ (n % 3 = 0 ∧ n ≤ 45) ∧ ∀ j, 0 ≤ j → j < i → T3 σ j) → zW G KX12_areCuffs 1 (zR (some (zI (zbi (qCuffs (σ 5) (σ 1) n)))) lay (rC x σ C0) nx) 20 [zP x, zI n, zI g, zI (3 * i)] [] lay (rC x σ C0) nx (0, 0) := by
    intro m
    induction m with
    | zero =>
      intro i g p hg hm i0 i1 hp
      refine z_il3 eX12_areCuffs_20 ?_
      refine z_il1 eX12_areCuffs_21 ?_
      refine z_icmp_ge (tgt := 81) eX12_areCuffs_22 rfl ⟨⟨by omega, by omega⟩, ⟨by omega, by omega⟩⟩ (fun h22 => ?_) (fun h22 => (by exfalso; omega))
      exact w81 _ _ p hg (hp.trans ⟨fun h => ⟨h.1, fun j j0 j1 => h.2 j j0 (by omega)⟩, fun h => ⟨h.1, fun j j0 j1 => h.2 j j0 (by omega)⟩⟩)
    | succ m ih =>
      intro i g p hg hm i0 i1 hp
      have hb0 : 3 * i < n → _ := fun z => hT (3 * i) (by omega) (by omega)
      by_cases hpp : p
      · have h45 := (hp.mp hpp).1
        have hg1 : g = 1 := by rw [hg, zbi_t hpp]
        have hb1 : 3 * i < n → _ := fun z => hT (3 * i + 1) (by omega) (by omega)
        have hb2 : 3 * i < n → _ := fun z => hT (3 * i + 2) (by omega) (by omega)
        refine z_il3 eX12_areCuffs_20 ?_
        refine z_il1 eX12_areCuffs_21 ?_
        refine z_icmp_ge (tgt := 81) eX12_areCuffs_22 rfl ⟨⟨by omega, by omega⟩, ⟨by omega, by omega⟩⟩ (fun h22 => ?_) (fun h22 => ?_)
        · exact w81 _ _ p hg (hp.trans ⟨fun h => ⟨h.1, fun j j0 j1 => h.2 j j0 (by omega)⟩, fun h => ⟨h.1, fun j j0 j1 => h.2 j j0 (by omega)⟩⟩)
        · have hc0 := hb0 (by omega)
          have hc1 := hb1 (by omega)
          have hc2 := hb2 (by omega)
          refine z_il2 eX12_areCuffs_25 ?_
          refine z_if_eq (tgt := 81) eX12_areCuffs_26 rfl ⟨by omega, by omega⟩ (fun h26 => (by exfalso; omega)) (fun h26 => ?_)
          refine z_al0 eX12_areCuffs_29 hR.ne ?_
          refine z_ra lX12_22 eX12_areCuffs_30 rfl hR rfl ?_
          refine z_il3 eX12_areCuffs_33 ?_
          refine z_rl eX12_areCuffs_34 hR (by decide) rfl rfl ⟨by omega, by omega⟩ ?_
          refine z_bipush eX12_areCuffs_35 (by decide) ?_
          refine z_icmp_ge (tgt := 73) eX12_areCuffs_37 rfl ⟨⟨by omega, by omega⟩, ⟨by omega, by omega⟩⟩ (fun h37 => ?_) (fun h37 => ?_)
          · refine z_iconst eX12_areCuffs_73 ?_
            refine z_is2 eX12_areCuffs_74 (Nat.ne_of_beq_eq_false rfl) ?_
            refine z_ii3 eX12_areCuffs_75 (Nat.ne_of_beq_eq_false rfl) ?_
            refine z_goto eX12_areCuffs_78 (tgt := 20) rfl ?_
            have hp2 : (p ∧ T3 σ i) ↔ (n % 3 = 0 ∧ n ≤ 45) ∧ ∀ j, 0 ≤ j → j < i + 1 → T3 σ j := ⟨fun z => ⟨h45, fun j j0 j1 => (show j < i ∨ j = i by omega).elim (fun e => (hp.mp z.1).2 j j0 e) (fun e => by rw [e]; exact z.2)⟩, fun z => ⟨hp.mpr ⟨z.1, fun j j0 j1 => z.2 j j0 (by omega)⟩, z.2 i i0 (by omega)⟩⟩
            rw [show 3 * i + 3 = 3 * (i + 1) by omega]
            first | (have e2 := h66; exact ih (i + 1) _ _ (zbi_t (p := p ∧ T3 σ i) ⟨hpp, by unfold T3; omega⟩).symm (by omega) (by omega) (by omega) hp2) | (exact ih (i + 1) _ _ (zbi_f (p := p ∧ T3 σ i) (fun z => by have := z.2; unfold T3 at this; omega)).symm (by omega) (by omega) (by omega) hp2) | fail
          · refine z_al0 eX12_areCuffs_40 hR.ne ?_
            refine z_ra lX12_22 eX12_areCuffs_41 rfl hR rfl ?_
            refine z_il3 eX12_areCuffs_44 ?_
            refine z_iconst eX12_areCuffs_45 ?_
            refine z_iadd eX12_areCuffs_46 ?_
            refine z_rl eX12_areCuffs_47 hR (by decide) rfl rfl ⟨by omega, by omega⟩ ?_
            refine z_al0 eX12_areCuffs_48 hR.ne ?_
            refine z_ra lX12_7 eX12_areCuffs_49 rfl hR rfl ?_
            refine z_iconst eX12_areCuffs_52 ?_
            refine z_rl eX12_areCuffs_53 hR (by decide) rfl rfl ⟨by omega, by omega⟩ ?_
            refine z_icmp_ge (tgt := 73) eX12_areCuffs_54 rfl ⟨⟨by omega, by omega⟩, ⟨by omega, by omega⟩⟩ (fun h54 => ?_) (fun h54 => ?_)
            · refine z_iconst eX12_areCuffs_73 ?_
              refine z_is2 eX12_areCuffs_74 (Nat.ne_of_beq_eq_false rfl) ?_
              refine z_ii3 eX12_areCuffs_75 (Nat.ne_of_beq_eq_false rfl) ?_
              refine z_goto eX12_areCuffs_78 (tgt := 20) rfl ?_
              have hp2 : (p ∧ T3 σ i) ↔ (n % 3 = 0 ∧ n ≤ 45) ∧ ∀ j, 0 ≤ j → j < i + 1 → T3 σ j := ⟨fun z => ⟨h45, fun j j0 j1 => (show j < i ∨ j = i by omega).elim (fun e => (hp.mp z.1).2 j j0 e) (fun e => by rw [e]; exact z.2)⟩, fun z => ⟨hp.mpr ⟨z.1, fun j j0 j1 => z.2 j j0 (by omega)⟩, z.2 i i0 (by omega)⟩⟩
              rw [show 3 * i + 3 = 3 * (i + 1) by omega]
              first | (have e2 := h66; exact ih (i + 1) _ _ (zbi_t (p := p ∧ T3 σ i) ⟨hpp, by unfold T3; omega⟩).symm (by omega) (by omega) (by omega) hp2) | (exact ih (i + 1) _ _ (zbi_f (p := p ∧ T3 σ i) (fun z => by have := z.2; unfold T3 at this; omega)).symm (by omega) (by omega) (by omega) hp2) | fail
            · refine z_al0 eX12_areCuffs_57 hR.ne ?_
              refine z_ra lX12_22 eX12_areCuffs_58 rfl hR rfl ?_
              refine z_il3 eX12_areCuffs_61 ?_
              refine z_iconst eX12_areCuffs_62 ?_
              refine z_iadd eX12_areCuffs_63 ?_
              refine z_rl eX12_areCuffs_64 hR (by decide) rfl rfl ⟨by omega, by omega⟩ ?_
              refine z_iconst eX12_areCuffs_65 ?_
              refine z_icmp_ge (tgt := 73) eX12_areCuffs_66 rfl ⟨⟨by omega, by omega⟩, ⟨by omega, by omega⟩⟩ (fun h66 => ?_) (fun h66 => ?_)
              · refine z_iconst eX12_areCuffs_73 ?_
                refine z_is2 eX12_areCuffs_74 (Nat.ne_of_beq_eq_false rfl) ?_
                refine z_ii3 eX12_areCuffs_75 (Nat.ne_of_beq_eq_false rfl) ?_
                refine z_goto eX12_areCuffs_78 (tgt := 20) rfl ?_
                have hp2 : (p ∧ T3 σ i) ↔ (n % 3 = 0 ∧ n ≤ 45) ∧ ∀ j, 0 ≤ j → j < i + 1 → T3 σ j := ⟨fun z => ⟨h45, fun j j0 j1 => (show j < i ∨ j = i by omega).elim (fun e => (hp.mp z.1).2 j j0 e) (fun e => by rw [e]; exact z.2)⟩, fun z => ⟨hp.mpr ⟨z.1, fun j j0 j1 => z.2 j j0 (by omega)⟩, z.2 i i0 (by omega)⟩⟩
                rw [show 3 * i + 3 = 3 * (i + 1) by omega]
                first | (have e2 := h66; exact ih (i + 1) _ _ (zbi_t (p := p ∧ T3 σ i) ⟨hpp, by unfold T3; omega⟩).symm (by omega) (by omega) (by omega) hp2) | (exact ih (i + 1) _ _ (zbi_f (p := p ∧ T3 σ i) (fun z => by have := z.2; unfold T3 at this; omega)).symm (by omega) (by omega) (by omega) hp2) | fail
              · refine z_iconst eX12_areCuffs_69 ?_
                refine z_goto eX12_areCuffs_70 (tgt := 74) rfl ?_
                refine z_is2 eX12_areCuffs_74 (Nat.ne_of_beq_eq_false rfl) ?_
                refine z_ii3 eX12_areCuffs_75 (Nat.ne_of_beq_eq_false rfl) ?_
                refine z_goto eX12_areCuffs_78 (tgt := 20) rfl ?_
                have hp2 : (p ∧ T3 σ i) ↔ (n % 3 = 0 ∧ n ≤ 45) ∧ ∀ j, 0 ≤ j → j < i + 1 → T3 σ j := ⟨fun z => ⟨h45, fun j j0 j1 => (show j < i ∨ j = i by omega).elim (fun e => (hp.mp z.1).2 j j0 e) (fun e => by rw [e]; exact z.2)⟩, fun z => ⟨hp.mpr ⟨z.1, fun j j0 j1 => z.2 j j0 (by omega)⟩, z.2 i i0 (by omega)⟩⟩
                rw [show 3 * i + 3 = 3 * (i + 1) by omega]
                first | (have e2 := h66; exact ih (i + 1) _ _ (zbi_t (p := p ∧ T3 σ i) ⟨hpp, by unfold T3; omega⟩).symm (by omega) (by omega) (by omega) hp2) | (exact ih (i + 1) _ _ (zbi_f (p := p ∧ T3 σ i) (fun z => by have := z.2; unfold T3 at this; omega)).symm (by omega) (by omega) (by omega) hp2) | fail
      · have hg0 : g = 0 := by rw [hg, zbi_f hpp]
        refine z_il3 eX12_areCuffs_20 ?_
        refine z_il1 eX12_areCuffs_21 ?_
        refine z_icmp_ge (tgt := 81) eX12_areCuffs_22 rfl ⟨⟨by omega, by omega⟩, ⟨by omega, by omega⟩⟩ (fun h22 => ?_) (fun h22 => ?_)
        · exact w81 _ _ p hg ⟨fun h => absurd h hpp, fun h => absurd (hp.mpr ⟨h.1, fun j j0 j1 => h.2 j j0 (by omega)⟩) hpp⟩
        · refine z_il2 eX12_areCuffs_25 ?_
          refine z_if_eq (tgt := 81) eX12_areCuffs_26 rfl ⟨by omega, by omega⟩ (fun h26 => ?_) (fun h26 => (by exfalso; omega))
          exact w81 _ _ p hg ⟨fun h => absurd h hpp, fun h => absurd (hp.mpr ⟨h.1, fun j j0 j1 => h.2 j j0 (by omega)⟩) hpp⟩
  refine z_il1 eX12_areCuffs_0 ?_
  refine z_iconst eX12_areCuffs_1 ?_
  refine z_irem eX12_areCuffs_2 ⟨by omega, by omega, by omega, by omega⟩ ?_
  refine z_if_ne (tgt := 16) eX12_areCuffs_3 rfl ⟨by omega, by omega⟩ (fun h3 => ?_) (fun h3 => ?_)
  · refine z_iconst eX12_areCuffs_16 ?_
    refine z_is2 eX12_areCuffs_17 (Nat.ne_of_beq_eq_false rfl) ?_
    refine z_iconst eX12_areCuffs_18 ?_
    refine z_is3 eX12_areCuffs_19 (Nat.ne_of_beq_eq_false rfl) ?_
    have hp2 : (n % 3 = 0 ∧ n ≤ 45) ↔ (n % 3 = 0 ∧ n ≤ 45) ∧ ∀ j, 0 ≤ j → j < (0 : Int) → T3 σ j := ⟨fun z => ⟨z, fun j j0 j1 => by omega⟩, fun z => z.1⟩
    first | exact w20 n.toNat 0 _ _ (zbi_t (p := n % 3 = 0 ∧ n ≤ 45) (by omega)).symm (by omega) (by decide) (by omega) hp2 | exact w20 n.toNat 0 _ _ (zbi_f (p := n % 3 = 0 ∧ n ≤ 45) (by omega)).symm (by omega) (by decide) (by omega) hp2
  · refine z_il1 eX12_areCuffs_6 ?_
    refine z_bipush eX12_areCuffs_7 (by decide) ?_
    refine z_icmp_gt (tgt := 16) eX12_areCuffs_9 rfl ⟨⟨by omega, by omega⟩, ⟨by omega, by omega⟩⟩ (fun h9 => ?_) (fun h9 => ?_)
    · refine z_iconst eX12_areCuffs_16 ?_
      refine z_is2 eX12_areCuffs_17 (Nat.ne_of_beq_eq_false rfl) ?_
      refine z_iconst eX12_areCuffs_18 ?_
      refine z_is3 eX12_areCuffs_19 (Nat.ne_of_beq_eq_false rfl) ?_
      have hp2 : (n % 3 = 0 ∧ n ≤ 45) ↔ (n % 3 = 0 ∧ n ≤ 45) ∧ ∀ j, 0 ≤ j → j < (0 : Int) → T3 σ j := ⟨fun z => ⟨z, fun j j0 j1 => by omega⟩, fun z => z.1⟩
      first | exact w20 n.toNat 0 _ _ (zbi_t (p := n % 3 = 0 ∧ n ≤ 45) (by omega)).symm (by omega) (by decide) (by omega) hp2 | exact w20 n.toNat 0 _ _ (zbi_f (p := n % 3 = 0 ∧ n ≤ 45) (by omega)).symm (by omega) (by decide) (by omega) hp2
    · refine z_iconst eX12_areCuffs_12 ?_
      refine z_goto eX12_areCuffs_13 (tgt := 17) rfl ?_
      refine z_is2 eX12_areCuffs_17 (Nat.ne_of_beq_eq_false rfl) ?_
      refine z_iconst eX12_areCuffs_18 ?_
      refine z_is3 eX12_areCuffs_19 (Nat.ne_of_beq_eq_false rfl) ?_
      have hp2 : (n % 3 = 0 ∧ n ≤ 45) ↔ (n % 3 = 0 ∧ n ≤ 45) ∧ ∀ j, 0 ≤ j → j < (0 : Int) → T3 σ j := ⟨fun z => ⟨z, fun j j0 j1 => by omega⟩, fun z => z.1⟩
      first | exact w20 n.toNat 0 _ _ (zbi_t (p := n % 3 = 0 ∧ n ≤ 45) (by omega)).symm (by omega) (by decide) (by omega) hp2 | exact w20 n.toNat 0 _ _ (zbi_f (p := n % 3 = 0 ∧ n ≤ 45) (by omega)).symm (by omega) (by decide) (by omega) hp2
