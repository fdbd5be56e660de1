/-! Rows of skies that fit the cuffs. -/
def qFit1 (T M : Int → Int) (ago s j : Int) : Prop := T (3 * j) ≠ ago ∨ (0 < qFelt M (T (3 * j + 1)) s (-1) (M 6) ↔ T (3 * j + 2) = 1)
def qFit (T M : Int → Int) (n ago s : Int) : Prop := ∀ j, 0 ≤ j → 3 * j < n → qFit1 T M ago s j
theorem m_X12_fitsCuffs {G : zG} {lay : zLay} {σ C0 : zMem} {nx x : Int} {n o s : Int} (hR : RefL lay x) (hS : TxS lay C0) (hJ : zJs σ) (hM : zOL (σ 1)) (hT : ∀ k, 0 ≤ k → k < 400 → 0 ≤ σ 5 k ∧ σ 5 k ≤ 255) (hn : 0 ≤ n) (hC : qCuffs (σ 5) (σ 1) n) (ho : 0 ≤ o ∧ o < 12) (hs : 0 ≤ s ∧ s < 5) : zMM G 68 KX12_fitsCuffs [zP x, zI n, zI o, zI s] lay (rC x σ C0) nx (0, 0) (zX' (some (zI (zbi (qFit (σ 5) (σ 1) n o s)))) (zScr σ) lay C0 nx x) := by
  refine z_met' (L := [zP x, zI n, zI o, zI s, zU, zU]) gX12_fitsCuffs.1 rfl rfl (Nat.le_of_ble_eq_true rfl) rfl ?_
  have hm3 := hM.1.1.m3
  have h45 := hC.1
  have w76 : ∀ (g i : Int) (p : Prop) (S : zMem), g = zbi p → (p ↔ qFit (σ 5) (σ 1) n o s) → zScr σ S → zW G KX12_fitsCuffs 68 (zX' (some (zI (zbi (qFit (σ 5) (σ 1) n o s)))) (zScr σ) lay C0 nx x) 76 [zP x, zI n, zI o, zI s, zI g, zI i] [] lay (rC x S C0) nx (0, 0) := by
    intro g i p S hg hp hSc
    subst hg
    refine z_il4 eX12_fitsCuffs_76 ?_
    refine z_zreturn eX12_fitsCuffs_78 rfl (by first | exact Or.inl rfl | exact Or.inr rfl | exact zbi_01 _ | assumption | omega) ?_
    exact zXe hSc (zbi_iff hp)
  have w6 : ∀ (m : Nat) (i g : Int) (p : Prop) (S : zMem), g = zbi p → n - 3 * i ≤ m → 0 ≤ i → 3 * i ≤ n + 2 → (p ↔ ∀ j, 0 ≤ j → j < i → qFit1 (σ 5) (σ 1) o s j) → zScr σ S → zW G KX12_fitsCuffs 68 (zX' (some (zI (zbi (qFit (σ 5) (σ 1) n o s)))) (zScr σ) lay C0 nx x) 6 [zP x, zI n, zI o, zI s, zI g, zI (3 * i)] [] lay (rC x S C0) nx (0, 0) := by
    intro m
    induction m with
    | zero =>
      intro i g p S hg hm i0 i1 hp hSc
      refine z_il5 eX12_fitsCuffs_6 ?_
      refine z_il1 eX12_fitsCuffs_8 ?_
      refine z_icmp_ge (tgt := 76) eX12_fitsCuffs_9 rfl ⟨⟨by omega, by omega⟩, ⟨by omega, by omega⟩⟩ (fun h9 => ?_) (fun h9 => (by exfalso; omega))
      exact w76 _ _ p S hg (hp.trans ⟨fun h j j0 j1 => h j j0 (by omega), fun h j j0 j1 => h j j0 (by omega)⟩) hSc
    | succ m ih =>
      intro i g p S hg hm i0 i1 hp hSc
      by_cases hpp : p
      · have hg1 : g = 1 := by rw [hg, zbi_t hpp]
        have hb0 : 3 * i < n → _ := fun z => hT (3 * i) (by omega) (by omega)
        have hb1 : 3 * i < n → _ := fun z => hT (3 * i + 1) (by omega) (by omega)
        have hb2 : 3 * i < n → _ := fun z => hT (3 * i + 2) (by omega) (by omega)
        have hcc : 3 * i < n → _ := fun z => hC.2 i i0 z
        have hz := zbi_01 (0 < qFelt (σ 1) (σ 5 (3 * i + 1)) s (-1) (σ 1 6))
        have hp2 : (p ∧ qFit1 (σ 5) (σ 1) o s i) ↔ ∀ j, 0 ≤ j → j < i + 1 → qFit1 (σ 5) (σ 1) o s j := ⟨fun z j j0 j1 => (show j < i ∨ j = i by omega).elim (fun e => (hp.mp z.1) j j0 e) (fun e => by rw [e]; exact z.2), fun z => ⟨hp.mpr (fun j j0 j1 => z j j0 (by omega)), z i i0 (by omega)⟩⟩
        refine z_il5 eX12_fitsCuffs_6 ?_
        refine z_il1 eX12_fitsCuffs_8 ?_
        refine z_icmp_ge (tgt := 76) eX12_fitsCuffs_9 rfl ⟨⟨by omega, by omega⟩, ⟨by omega, by omega⟩⟩ (fun h9 => ?_) (fun h9 => ?_)
        · exact w76 _ _ p S hg (hp.trans ⟨fun h j j0 j1 => h j j0 (by omega), fun h j j0 j1 => h j j0 (by omega)⟩) hSc
        · have hc0 := hb0 (by omega)
          have hc1 := hb1 (by omega)
          have hc2 := hb2 (by omega)
          have hc3 := hcc (by omega)
          refine z_il4 eX12_fitsCuffs_12 ?_
          refine z_if_eq (tgt := 76) eX12_fitsCuffs_14 rfl ⟨by omega, by omega⟩ (fun h14 => (by exfalso; omega)) (fun h14 => ?_)
          refine z_al0 eX12_fitsCuffs_17 hR.ne ?_
          refine z_ra lX12_22 eX12_fitsCuffs_18 rfl hR rfl ?_
          refine z_il5 eX12_fitsCuffs_21 ?_
          refine z_rl eX12_fitsCuffs_23 hR (by decide) rfl rfl ⟨by omega, by omega⟩ ?_
          first | rw [hSc.r1] | rw [hSc.r7] | rw [hSc.r8] | rw [hSc.r5] | rw [hSc.r9] | rw [hSc.r11] | skip
          refine z_il2 eX12_fitsCuffs_24 ?_
          refine z_icmp_ne (tgt := 63) eX12_fitsCuffs_25 rfl ⟨⟨by omega, by omega⟩, ⟨by omega, by omega⟩⟩ (fun h25 => ?_) (fun h25 => ?_)
          · refine z_iconst eX12_fitsCuffs_63 ?_
            refine z_goto eX12_fitsCuffs_64 (tgt := 68) rfl ?_
            refine z_is4 eX12_fitsCuffs_68 (Nat.ne_of_beq_eq_false rfl) ?_
            refine z_ii5 eX12_fitsCuffs_70 (Nat.ne_of_beq_eq_false rfl) ?_
            refine z_goto eX12_fitsCuffs_73 (tgt := 6) rfl ?_
            rw [show 3 * i + 3 = 3 * (i + 1) by omega]
            first | (have e2 := h60; have e3 := h52; exact ih (i + 1) _ _ _ (zbi_t (p := p ∧ qFit1 (σ 5) (σ 1) o s i) ⟨hpp, Or.inr (by first | exact iff_of_true (zbi_1.mp e2) e3 | exact iff_of_false (zbi_0.mp e2) e3)⟩).symm (by omega) (by omega) (by omega) hp2 hs39) | (have e2 := h60; have e3 := h52; exact ih (i + 1) _ _ _ (zbi_f (p := p ∧ qFit1 (σ 5) (σ 1) o s i) (fun z => z.2.elim (fun z2 => z2 h25) (fun z2 => by first | exact e2 (zbi_t (z2.mpr e3)) | exact e2 (zbi_f (fun z3 => e3 (z2.mp z3)))))).symm (by omega) (by omega) (by omega) hp2 hs39) | (have e4 := h25; exact ih (i + 1) _ _ _ (zbi_t (p := p ∧ qFit1 (σ 5) (σ 1) o s i) ⟨hpp, Or.inl e4⟩).symm (by omega) (by omega) (by omega) hp2 hSc) | fail
          · refine z_al0 eX12_fitsCuffs_28 hR.ne ?_
            refine z_al0 eX12_fitsCuffs_29 hR.ne ?_
            refine z_ra lX12_22 eX12_fitsCuffs_30 rfl hR rfl ?_
            refine z_il5 eX12_fitsCuffs_33 ?_
            refine z_iconst eX12_fitsCuffs_35 ?_
            refine z_iadd eX12_fitsCuffs_36 ?_
            refine z_rl eX12_fitsCuffs_37 hR (by decide) rfl rfl ⟨by omega, by omega⟩ ?_
            first | rw [hSc.r1] | rw [hSc.r7] | rw [hSc.r8] | rw [hSc.r5] | rw [hSc.r9] | rw [hSc.r11] | skip
            refine z_il3 eX12_fitsCuffs_38 ?_
            refine z_V2x eX12_fitsCuffs_39 vX12_376 rfl rfl (Nat.le_of_ble_eq_true rfl) (Nat.le_of_ble_eq_true rfl) hR.x (m_X12_isWet hR hS hSc.2.2 (by rw [hSc.r1]; exact hM) ⟨by omega, by omega⟩ ⟨by omega, by omega⟩) (fun s39 hs39 => ?_)
            replace hs39 := hSc.trans hs39
            try rw [hSc.r1]
            refine z_al0 eX12_fitsCuffs_42 hR.ne ?_
            refine z_ra lX12_22 eX12_fitsCuffs_43 rfl hR rfl ?_
            refine z_il5 eX12_fitsCuffs_46 ?_
            refine z_iconst eX12_fitsCuffs_48 ?_
            refine z_iadd eX12_fitsCuffs_49 ?_
            refine z_rl eX12_fitsCuffs_50 hR (by decide) rfl rfl ⟨by omega, by omega⟩ ?_
            first | rw [hs39.r1] | rw [hs39.r7] | rw [hs39.r8] | rw [hs39.r5] | rw [hs39.r9] | rw [hs39.r11] | skip
            refine z_iconst eX12_fitsCuffs_51 ?_
            refine z_icmp_ne (tgt := 59) eX12_fitsCuffs_52 rfl ⟨⟨by omega, by omega⟩, ⟨by omega, by omega⟩⟩ (fun h52 => ?_) (fun h52 => ?_)
            · refine z_iconst eX12_fitsCuffs_59 ?_
              refine z_icmp_ne (tgt := 67) eX12_fitsCuffs_60 rfl ⟨⟨by omega, by omega⟩, ⟨by omega, by omega⟩⟩ (fun h60 => ?_) (fun h60 => ?_)
              · refine z_iconst eX12_fitsCuffs_67 ?_
                refine z_is4 eX12_fitsCuffs_68 (Nat.ne_of_beq_eq_false rfl) ?_
                refine z_ii5 eX12_fitsCuffs_70 (Nat.ne_of_beq_eq_false rfl) ?_
                refine z_goto eX12_fitsCuffs_73 (tgt := 6) rfl ?_
                rw [show 3 * i + 3 = 3 * (i + 1) by omega]
                first | (have e2 := h60; have e3 := h52; exact ih (i + 1) _ _ _ (zbi_t (p := p ∧ qFit1 (σ 5) (σ 1) o s i) ⟨hpp, Or.inr (by first | exact iff_of_true (zbi_1.mp e2) e3 | exact iff_of_false (zbi_0.mp e2) e3)⟩).symm (by omega) (by omega) (by omega) hp2 hs39) | (have e2 := h60; have e3 := h52; exact ih (i + 1) _ _ _ (zbi_f (p := p ∧ qFit1 (σ 5) (σ 1) o s i) (fun z => z.2.elim (fun z2 => z2 h25) (fun z2 => by first | exact e2 (zbi_t (z2.mpr e3)) | exact e2 (zbi_f (fun z3 => e3 (z2.mp z3)))))).symm (by omega) (by omega) (by omega) hp2 hs39) | (have e4 := h25; exact ih (i + 1) _ _ _ (zbi_t (p := p ∧ qFit1 (σ 5) (σ 1) o s i) ⟨hpp, Or.inl e4⟩).symm (by omega) (by omega) (by omega) hp2 hSc) | fail
              · refine z_iconst eX12_fitsCuffs_63 ?_
                refine z_goto eX12_fitsCuffs_64 (tgt := 68) rfl ?_
                refine z_is4 eX12_fitsCuffs_68 (Nat.ne_of_beq_eq_false rfl) ?_
                refine z_ii5 eX12_fitsCuffs_70 (Nat.ne_of_beq_eq_false rfl) ?_
                refine z_goto eX12_fitsCuffs_73 (tgt := 6) rfl ?_
                rw [show 3 * i + 3 = 3 * (i + 1) by omega]
                first | (have e2 := h60; have e3 := h52; exact ih (i + 1) _ _ _ (zbi_t (p := p ∧ qFit1 (σ 5) (σ 1) o s i) ⟨hpp, Or.inr (by first | exact iff_of_true (zbi_1.mp e2) e3 | exact iff_of_false (zbi_0.mp e2) e3)⟩).symm (by omega) (by omega) (by omega) hp2 hs39) | (have e2 := h60; have e3 := h52; exact ih (i + 1) _ _ _ (zbi_f (p := p ∧ qFit1 (σ 5) (σ 1) o s i) (fun z => z.2.elim (fun z2 => z2 h25) (fun z2 => by first | exact e2 (zbi_t (z2.mpr e3)) | exact e2 (zbi_f (fun z3 => e3 (z2.mp z3)))))).symm (by omega) (by omega) (by omega) hp2 hs39) | (have e4 := h25; exact ih (i + 1) _ _ _ (zbi_t (p := p ∧ qFit1 (σ 5) (σ 1) o s i) ⟨hpp, Or.inl e4⟩).symm (by omega) (by omega) (by omega) hp2 hSc) | fail
            · refine z_iconst eX12_fitsCuffs_55 ?_
              refine z_goto eX12_fitsCuffs_56 (tgt := 60) rfl ?_
              refine z_icmp_ne (tgt := 67) eX12_fitsCuffs_60 rfl ⟨⟨by omega, by omega⟩, ⟨by omega, by omega⟩⟩ (fun h60 => ?_) (fun h60 => ?_)
              · refine z_iconst eX12_fitsCuffs_67 ?_
                refine z_is4 eX12_fitsCuffs_68 (Nat.ne_of_beq_eq_false rfl) ?_
                refine z_ii5 eX12_fitsCuffs_70 (Nat.ne_of_beq_eq_false rfl) ?_
                refine z_goto eX12_fitsCuffs_73 (tgt := 6) rfl ?_
                rw [show 3 * i + 3 = 3 * (i + 1) by omega]
                first | (have e2 := h60; have e3 := h52; exact ih (i + 1) _ _ _ (zbi_t (p := p ∧ qFit1 (σ 5) (σ 1) o s i) ⟨hpp, Or.inr (by first | exact iff_of_true (zbi_1.mp e2) e3 | exact iff_of_false (zbi_0.mp e2) e3)⟩).symm (by omega) (by omega) (by omega) hp2 hs39) | (have e2 := h60; have e3 := h52; exact ih (i + 1) _ _ _ (zbi_f (p := p ∧ qFit1 (σ 5) (σ 1) o s i) (fun z => z.2.elim (fun z2 => z2 h25) (fun z2 => by first | exact e2 (zbi_t (z2.mpr e3)) | exact e2 (zbi_f (fun z3 => e3 (z2.mp z3)))))).symm (by omega) (by omega) (by omega) hp2 hs39) | (have e4 := h25; exact ih (i + 1) _ _ _ (zbi_t (p := p ∧ qFit1 (σ 5) (σ 1) o s i) ⟨hpp, Or.inl e4⟩).symm (by omega) (by omega) (by omega) hp2 hSc) | fail
              · refine z_iconst eX12_fitsCuffs_63 ?_
                refine z_goto eX12_fitsCuffs_64 (tgt := 68) rfl ?_
                refine z_is4 eX12_fitsCuffs_68 (Nat.ne_of_beq_eq_false rfl) ?_
                refine z_ii5 eX12_fitsCuffs_70 (Nat.ne_of_beq_eq_false rfl) ?_
                refine z_goto eX12_fitsCuffs_73 (tgt := 6) rfl ?_
                rw [show 3 * i + 3 = 3 * (i + 1) by omega]
                first | (have e2 := h60; have e3 := h52; exact ih (i + 1) _ _ _ (zbi_t (p := p ∧ qFit1 (σ 5) (σ 1) o s i) ⟨hpp, Or.inr (by first | exact iff_of_true (zbi_1.mp e2) e3 | exact iff_of_false (zbi_0.mp e2) e3)⟩).symm (by omega) (by omega) (by omega) hp2 hs39) | (have e2 := h60; have e3 := h52; exact ih (i + 1) _ _ _ (zbi_f (p := p ∧ qFit1 (σ 5) (σ 1) o s i) (fun z => z.2.elim (fun z2 => z2 h25) (fun z2 => by first | exact e2 (zbi_t (z2.mpr e3)) | exact e2 (zbi_f (fun z3 => e3 (z2.mp z3)))))).symm (by omega) (by omega) (by omega) hp2 hs39) | (have e4 := h25; exact ih (i + 1) _ _ _ (zbi_t (p := p ∧ qFit1 (σ 5) (σ 1) o s i) ⟨hpp, Or.inl e4⟩).symm (by omega) (by omega) (by omega) hp2 hSc) | fail
      · have hg0 : g = 0 := by rw [hg, zbi_f hpp]
        refine z_il5 eX12_fitsCuffs_6 ?_
        refine z_il1 eX12_fitsCuffs_8 ?_
        refine z_icmp_ge (tgt := 76) eX12_fitsCuffs_9 rfl ⟨⟨by omega, by omega⟩, ⟨by omega, by omega⟩⟩ (fun h9 => ?_) (fun h9 => ?_)
        · exact w76 _ _ p S hg ⟨fun h => absurd h hpp, fun h => absurd (hp.mpr (fun j j0 j1 => h j j0 (by omega))) hpp⟩ hSc
        · refine z_il4 eX12_fitsCuffs_12 ?_
          refine z_if_eq (tgt := 76) eX12_fitsCuffs_14 rfl ⟨by omega, by omega⟩ (fun h14 => ?_) (fun h14 => (by exfalso; omega))
          exact w76 _ _ p S hg ⟨fun h => absurd h hpp, fun h => absurd (hp.mpr (fun j j0 j1 => h j j0 (by omega))) hpp⟩ hSc
  refine z_iconst eX12_fitsCuffs_0 ?_
  refine z_is4 eX12_fitsCuffs_1 (Nat.ne_of_beq_eq_false rfl) ?_
  refine z_iconst eX12_fitsCuffs_3 ?_
  refine z_is5 eX12_fitsCuffs_4 (Nat.ne_of_beq_eq_false rfl) ?_
  exact w6 n.toNat 0 1 True σ (zbi_t trivial).symm (by omega) (by decide) (by omega) ⟨fun _ j j0 j1 => by omega, fun _ => trivial⟩ (zScr.refl hJ)
def qBad (T M : Int → Int) (n bound ago t : Int) : Prop := (ago = bound ∧ t ≠ 2) ∨ ¬ qFit T M n ago t
/-- in how many rows of skies sky t was, 11 - k hours ago -/
noncomputable def qWay (T M : Int → Int) (n bound : Int) : Nat → Int → Int
  | 0, t => zif (qBad T M n bound 11 t) 0 1
  | k + 1, t => zif (qBad T M n bound (10 - k) t) 0 (zsum (fun s => if 0 < M (13 + 5 * s + t) then qWay T M n bound k s else 0) 5)
theorem qWay_bd (T M : Int → Int) (n bound : Int) : ∀ (k : Nat) (t : Int), 0 ≤ qWay T M n bound k t ∧ qWay T M n bound k t ≤ ((5 ^ k : Nat) : Int) := by
  intro k
  induction k with
  | zero =>
    intro t
    unfold qWay
    by_cases h : qBad T M n bound 11 t
    · rw [zif_t h]; decide
    · rw [zif_f h]; decide
  | succ k ih =>
    intro t
    unfold qWay
    by_cases h : qBad T M n bound (10 - k) t
    · rw [zif_t h]; exact ⟨by decide, Int.natCast_nonneg _⟩
    · rw [zif_f h]
      have := zsum_bnd (f := fun s => if 0 < M (13 + 5 * s + t) then qWay T M n bound k s else 0) (c := ((5 ^ k : Nat) : Int)) (n := 5) (by decide) (fun s _ _ => by
        have := ih s
        split
        · exact this
        · omega)
      rw [show 5 ^ (k + 1) = 5 ^ k * 5 from Nat.pow_succ _ _]
      omega
