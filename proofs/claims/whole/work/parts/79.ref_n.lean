/-! The rows of skies, walked. -/
theorem zScx.hi {σ S : zMem} (h : zScx σ S) {o j v : Int} (ho : 7 ≤ o) : zScx σ (zset S o j v) :=
  ⟨fun i hi => by rw [zset_o (by omega)]; exact h.1 i hi, fun p p1 p5 => by rw [zset_o (by omega)]; exact h.2.1 p p1 p5, h.2.2.set (by omega) (fun z => by omega)⟩
def zRwI (σ : zMem) (n bound ago : Int) (S : zMem) : Prop := zScx σ S ∧ (ago < 11 → ∀ t, 0 ≤ t → t < 5 → S 9 t = qWay (σ 5) (σ 1) n bound (10 - ago).toNat t)
theorem zRwI.put {σ S : zMem} {n bound ago j v : Int} (h : zRwI σ n bound ago S) : zRwI σ n bound ago (zset S 10 j v) := ⟨h.1.hi (by decide), fun z t t0 t1 => by rw [zset_o (by decide)]; exact h.2 z t t0 t1⟩
theorem zRwI.r {σ S s : zMem} {n bound ago : Int} (h : zRwI σ n bound ago S) (h2 : zScr S s) : zRwI σ n bound ago s := ⟨h.1.trans h2.x, fun z t t0 t1 => by rw [h2.r9]; exact h.2 z t t0 t1⟩
theorem m_X12_rows {G : zG} {lay : zLay} {σ C0 : zMem} {nx x : Int} {n c : Int} (hR : RefL lay x) (hS : TxS lay C0) (hJ : zJs σ) (hM : zOL (σ 1)) (hT : ∀ k, 0 ≤ k → k < 400 → 0 ≤ σ 5 k ∧ σ 5 k ≤ 255) (hn : 0 ≤ n) (hC : qCuffs (σ 5) (σ 1) n) (hc : -1 ≤ c ∧ c < 12) : zMM G 69 KX12_rows [zP x, zI n, zI c] lay (rC x σ C0) nx (0, 0) (zX' none (fun q => zScx σ q ∧ ∀ t, 0 ≤ t → t < 5 → q 9 t = qWay (σ 5) (σ 1) n c 11 t) lay C0 nx x) := by
  refine z_met' (L := [zP x, zI n, zI c, zU, zU, zU]) gX12_rows.1 rfl rfl (Nat.le_of_ble_eq_true rfl) rfl ?_
  generalize hQ : zX' _ _ lay C0 nx x = Q
  have w3 : ∀ ago : Int, -1 ≤ ago → ago < 12 → ∀ (S : zMem) (y4 y5 : zAV), zRwI σ n c ago S → zW G KX12_rows 69 Q 3 [zP x, zI n, zI c, zI ago, y4, y5] [] lay (rC x S C0) nx (0, 0) := by
    refine z_down ?_ 12 ?_
    · subst hQ
      intro S y4 y5 hI
      refine z_il3 eX12_rows_3 ?_
      refine z_if_lt (tgt := 158) eX12_rows_4 rfl ⟨by omega, by omega⟩ (fun h4 => ?_) (fun h4 => (by exfalso; omega))
      refine z_return eX12_rows_158 rfl ?_
      exact zXv ⟨hI.1, fun t t0 t1 => by have := hI.2 (by decide) t t0 t1; rwa [show ((10 : Int) - -1).toNat = 11 by decide] at this⟩
    · intro ago a0 a1 ih S y4 y5 hI
      generalize hk : (11 - ago).toNat = k
      have w126 : ∀ i : Int, 0 ≤ i → i ≤ 5 → ∀ (S : zMem) (y5 : zAV), zScx σ S → (∀ t, 0 ≤ t → t < 5 → S 10 t = qWay (σ 5) (σ 1) n c k t) → (∀ t, 0 ≤ t → t < i → S 9 t = qWay (σ 5) (σ 1) n c k t) → zW G KX12_rows 69 Q 126 [zP x, zI n, zI c, zI ago, zI i, y5] [] lay (rC x S C0) nx (0, 0) := by
        refine z_up 5 ?_ ?_
        · intro S y5 hSc h10 h9
          refine z_il4 eX12_rows_126 ?_
          refine z_iconst eX12_rows_128 ?_
          refine z_icmp_ge (tgt := 152) eX12_rows_129 rfl ⟨⟨by omega, by omega⟩, ⟨by omega, by omega⟩⟩ (fun h129 => ?_) (fun h129 => (by exfalso; omega))
          refine z_ii3 eX12_rows_152 (Nat.ne_of_beq_eq_false rfl) ?_
          refine z_goto eX12_rows_155 (tgt := 3) rfl ?_
          exact ih S _ _ ⟨hSc, fun _ t t0 t1 => by rw [show (10 - (ago - 1)).toNat = k by omega]; exact h9 t t0 t1⟩
        · intro i i0 i1 ih2 S y5 hSc h10 h9
          have e10 := h10 i i0 i1
          refine z_il4 eX12_rows_126 ?_
          refine z_iconst eX12_rows_128 ?_
          refine z_icmp_ge (tgt := 152) eX12_rows_129 rfl ⟨⟨by omega, by omega⟩, ⟨by omega, by omega⟩⟩ (fun h129 => (by exfalso; omega)) (fun h129 => ?_)
          refine z_al0 eX12_rows_132 hR.ne ?_
          refine z_ra lX12_38 eX12_rows_133 rfl hR rfl ?_
          refine z_il4 eX12_rows_136 ?_
          refine z_al0 eX12_rows_138 hR.ne ?_
          refine z_ra lX12_42 eX12_rows_139 rfl hR rfl ?_
          refine z_il4 eX12_rows_142 ?_
          refine z_rlJ eX12_rows_144 hR (by decide) rfl rfl ⟨by omega, by omega⟩ ?_
          rw [e10]
          refine z_rsJ eX12_rows_145 hR (by decide) rfl rfl ⟨by omega, by omega⟩ ?_
          refine z_ii4 eX12_rows_146 (Nat.ne_of_beq_eq_false rfl) ?_
          refine z_goto eX12_rows_149 (tgt := 126) rfl ?_
          refine ih2 _ y5 (hSc.hi (by decide)) (fun t t0 t1 => by rw [zset_o (by decide)]; exact h10 t t0 t1) (fun t t0 t1 => ?_)
          by_cases e : t = i
          · rw [e, zset_eq]
          · rw [zset_at, if_neg (by omega)]; exact h9 t t0 (by omega)
      have w10 : ∀ t : Int, 0 ≤ t → t ≤ 5 → ∀ (S : zMem) (y5 : zAV), zRwI σ n c ago S → (∀ j, 0 ≤ j → j < t → S 10 j = qWay (σ 5) (σ 1) n c k j) → zW G KX12_rows 69 Q 10 [zP x, zI n, zI c, zI ago, zI t, y5] [] lay (rC x S C0) nx (0, 0) := by
        refine z_up 5 ?_ ?_
        · intro S y5 hI h10
          refine z_il4 eX12_rows_10 ?_
          refine z_iconst eX12_rows_12 ?_
          refine z_icmp_ge (tgt := 123) eX12_rows_13 rfl ⟨⟨by omega, by omega⟩, ⟨by omega, by omega⟩⟩ (fun h13 => ?_) (fun h13 => (by exfalso; omega))
          refine z_iconst eX12_rows_123 ?_
          refine z_is4 eX12_rows_124 (Nat.ne_of_beq_eq_false rfl) ?_
          exact w126 0 (by decide) (by decide) S y5 hI.1 h10 (fun t t0 t1 => by omega)
        · intro t t0 t1 ih2 S y5 hI h10
          have w87 : ∀ (B : Int) (S : zMem) (y5 : zAV), zRwI σ n c ago S → (∀ j, 0 ≤ j → j < t → S 10 j = qWay (σ 5) (σ 1) n c k j) → S 10 t = B → qWay (σ 5) (σ 1) n c k t = zif (qBad (σ 5) (σ 1) n c ago t) 0 B → zW G KX12_rows 69 Q 87 [zP x, zI n, zI c, zI ago, zI t, y5] [] lay (rC x S C0) nx (0, 0) := by
            intro B S y5 hI h10 hB hw
            have hS1 := hI.1.r1
            have hS5 := hI.1.r5
            have hz : ∀ S', zRwI σ n c ago S' → (∀ j, 0 ≤ j → j < t → S' 10 j = qWay (σ 5) (σ 1) n c k j) → qBad (σ 5) (σ 1) n c ago t → zW G KX12_rows 69 Q 10 [zP x, zI n, zI c, zI ago, zI (t + 1), y5] [] lay (rC x (zset S' 10 t 0) C0) nx (0, 0) := by
              intro S' hI' h10' hb
              rw [zif_t hb] at hw
              refine ih2 _ y5 hI'.put (fun j j0 j1 => ?_)
              by_cases e : j = t
              · rw [e, zset_eq, hw]
              · rw [zset_at, if_neg (by omega)]; exact h10' j j0 (by omega)
            have hk2 : ∀ S', zRwI σ n c ago S' → S' 10 = S 10 → ¬ qBad (σ 5) (σ 1) n c ago t → zW G KX12_rows 69 Q 10 [zP x, zI n, zI c, zI ago, zI (t + 1), y5] [] lay (rC x S' C0) nx (0, 0) := by
              intro S' hI' h10' hb
              rw [zif_f hb] at hw
              refine ih2 _ y5 hI' (fun j j0 j1 => ?_)
              rw [h10']
              by_cases e : j = t
              · rw [e, hw, hB]
              · exact h10 j j0 (by omega)
            refine z_il3 eX12_rows_87 ?_
            refine z_il2 eX12_rows_88 ?_
            refine z_icmp_ne (tgt := 98) eX12_rows_89 rfl ⟨⟨by omega, by omega⟩, ⟨by omega, by omega⟩⟩ (fun h89 => ?_) (fun h89 => ?_)
            · refine z_al0 eX12_rows_98 hR.ne ?_
              refine z_il1 eX12_rows_99 ?_
              refine z_il3 eX12_rows_100 ?_
              refine z_il4 eX12_rows_101 ?_
              refine z_V3x eX12_rows_103 vX12_379 rfl rfl (Nat.le_of_ble_eq_true rfl) (Nat.le_of_ble_eq_true rfl) hR.x (m_X12_fitsCuffs hR hS hI.1.2.2 (by rw [hS1]; exact hM) (by rw [hS5]; exact hT) hn (by rw [hS5, hS1]; exact hC) ⟨a0, a1⟩ ⟨t0, t1⟩) (fun s103 hs103 => ?_)
              rw [hS5, hS1]
              refine z_ifb_ne (tgt := 117) eX12_rows_106 rfl (fun h106 => ?_) (fun h106 => ?_)
              · refine z_ii4 eX12_rows_117 (Nat.ne_of_beq_eq_false rfl) ?_
                refine z_goto eX12_rows_120 (tgt := 10) rfl ?_
                first | (have e2 := h106; first | exact hk2 s103 (hI.r hs103) hs103.r10 (fun z => z.elim (fun z2 => h89 z2.1) (fun z2 => z2 e2)) | exact hk2 s103 (hI.r hs103) hs103.r10 (fun z => z.elim (fun z2 => z2.2 h95) (fun z2 => z2 e2)) | exact hz s103 (hI.r hs103) (fun j j0 j1 => by rw [hs103.r10]; exact h10 j j0 j1) (Or.inr e2)) | exact hz S hI h10 (Or.inl ⟨h89, h95⟩) | fail
              · refine z_al0 eX12_rows_109 hR.ne ?_
                refine z_ra lX12_42 eX12_rows_110 rfl hR rfl ?_
                refine z_il4 eX12_rows_113 ?_
                refine z_lconst0 eX12_rows_115 ?_
                refine z_rsJ eX12_rows_116 hR (by decide) rfl rfl ⟨by omega, by omega⟩ ?_
                refine z_ii4 eX12_rows_117 (Nat.ne_of_beq_eq_false rfl) ?_
                refine z_goto eX12_rows_120 (tgt := 10) rfl ?_
                first | (have e2 := h106; first | exact hk2 s103 (hI.r hs103) hs103.r10 (fun z => z.elim (fun z2 => h89 z2.1) (fun z2 => z2 e2)) | exact hk2 s103 (hI.r hs103) hs103.r10 (fun z => z.elim (fun z2 => z2.2 h95) (fun z2 => z2 e2)) | exact hz s103 (hI.r hs103) (fun j j0 j1 => by rw [hs103.r10]; exact h10 j j0 j1) (Or.inr e2)) | exact hz S hI h10 (Or.inl ⟨h89, h95⟩) | fail
            · refine z_il4 eX12_rows_92 ?_
              refine z_iconst eX12_rows_94 ?_
              refine z_icmp_ne (tgt := 109) eX12_rows_95 rfl ⟨⟨by omega, by omega⟩, ⟨by omega, by omega⟩⟩ (fun h95 => ?_) (fun h95 => ?_)
              · refine z_al0 eX12_rows_109 hR.ne ?_
                refine z_ra lX12_42 eX12_rows_110 rfl hR rfl ?_
                refine z_il4 eX12_rows_113 ?_
                refine z_lconst0 eX12_rows_115 ?_
                refine z_rsJ eX12_rows_116 hR (by decide) rfl rfl ⟨by omega, by omega⟩ ?_
                refine z_ii4 eX12_rows_117 (Nat.ne_of_beq_eq_false rfl) ?_
                refine z_goto eX12_rows_120 (tgt := 10) rfl ?_
                first | (have e2 := h106; first | exact hk2 s103 (hI.r hs103) hs103.r10 (fun z => z.elim (fun z2 => h89 z2.1) (fun z2 => z2 e2)) | exact hk2 s103 (hI.r hs103) hs103.r10 (fun z => z.elim (fun z2 => z2.2 h95) (fun z2 => z2 e2)) | exact hz s103 (hI.r hs103) (fun j j0 j1 => by rw [hs103.r10]; exact h10 j j0 j1) (Or.inr e2)) | exact hz S hI h10 (Or.inl ⟨h89, h95⟩) | fail
              · refine z_al0 eX12_rows_98 hR.ne ?_
                refine z_il1 eX12_rows_99 ?_
                refine z_il3 eX12_rows_100 ?_
                refine z_il4 eX12_rows_101 ?_
                refine z_V3x eX12_rows_103 vX12_379 rfl rfl (Nat.le_of_ble_eq_true rfl) (Nat.le_of_ble_eq_true rfl) hR.x (m_X12_fitsCuffs hR hS hI.1.2.2 (by rw [hS1]; exact hM) (by rw [hS5]; exact hT) hn (by rw [hS5, hS1]; exact hC) ⟨a0, a1⟩ ⟨t0, t1⟩) (fun s103 hs103 => ?_)
                rw [hS5, hS1]
                refine z_ifb_ne (tgt := 117) eX12_rows_106 rfl (fun h106 => ?_) (fun h106 => ?_)
                · refine z_ii4 eX12_rows_117 (Nat.ne_of_beq_eq_false rfl) ?_
                  refine z_goto eX12_rows_120 (tgt := 10) rfl ?_
                  first | (have e2 := h106; first | exact hk2 s103 (hI.r hs103) hs103.r10 (fun z => z.elim (fun z2 => h89 z2.1) (fun z2 => z2 e2)) | exact hk2 s103 (hI.r hs103) hs103.r10 (fun z => z.elim (fun z2 => z2.2 h95) (fun z2 => z2 e2)) | exact hz s103 (hI.r hs103) (fun j j0 j1 => by rw [hs103.r10]; exact h10 j j0 j1) (Or.inr e2)) | exact hz S hI h10 (Or.inl ⟨h89, h95⟩) | fail
                · refine z_al0 eX12_rows_109 hR.ne ?_
                  refine z_ra lX12_42 eX12_rows_110 rfl hR rfl ?_
                  refine z_il4 eX12_rows_113 ?_
                  refine z_lconst0 eX12_rows_115 ?_
                  refine z_rsJ eX12_rows_116 hR (by decide) rfl rfl ⟨by omega, by omega⟩ ?_
                  refine z_ii4 eX12_rows_117 (Nat.ne_of_beq_eq_false rfl) ?_
                  refine z_goto eX12_rows_120 (tgt := 10) rfl ?_
                  first | (have e2 := h106; first | exact hk2 s103 (hI.r hs103) hs103.r10 (fun z => z.elim (fun z2 => h89 z2.1) (fun z2 => z2 e2)) | exact hk2 s103 (hI.r hs103) hs103.r10 (fun z => z.elim (fun z2 => z2.2 h95) (fun z2 => z2 e2)) | exact hz s103 (hI.r hs103) (fun j j0 j1 => by rw [hs103.r10]; exact h10 j j0 j1) (Or.inr e2)) | exact hz S hI h10 (Or.inl ⟨h89, h95⟩) | fail
          have hS1 := hI.1.r1
          by_cases h11 : ago = 11
          · have hw : qWay (σ 5) (σ 1) n c k t = zif (qBad (σ 5) (σ 1) n c ago t) 0 1 := by rw [show k = 0 by omega, h11]; rfl
            have h1 := w87 1 (zset S 10 t 1) (zI 0) hI.put (fun j j0 j1 => by rw [zset_at, if_neg (by omega)]; exact h10 j j0 j1) zset_eq hw
            refine z_il4 eX12_rows_10 ?_
            refine z_iconst eX12_rows_12 ?_
            refine z_icmp_ge (tgt := 123) eX12_rows_13 rfl ⟨⟨by omega, by omega⟩, ⟨by omega, by omega⟩⟩ (fun h13 => (by exfalso; omega)) (fun h13 => ?_)
            refine z_al0 eX12_rows_16 hR.ne ?_
            refine z_ra lX12_42 eX12_rows_17 rfl hR rfl ?_
            refine z_il4 eX12_rows_20 ?_
            refine z_il3 eX12_rows_22 ?_
            refine z_bipush eX12_rows_23 (by decide) ?_
            refine z_icmp_ne (tgt := 32) eX12_rows_25 rfl ⟨⟨by omega, by omega⟩, ⟨by omega, by omega⟩⟩ (fun h25 => (by exfalso; omega)) (fun h25 => ?_)
            refine z_lconst1 eX12_rows_28 ?_
            refine z_goto eX12_rows_29 (tgt := 33) rfl ?_
            refine z_rsJ eX12_rows_33 hR (by decide) rfl rfl ⟨by omega, by omega⟩ ?_
            refine z_iconst eX12_rows_34 ?_
            refine z_is5 eX12_rows_35 (Nat.ne_of_beq_eq_false rfl) ?_
            refine z_il5 eX12_rows_37 ?_
            refine z_iconst eX12_rows_39 ?_
            refine z_icmp_ge (tgt := 87) eX12_rows_40 rfl ⟨⟨by omega, by omega⟩, ⟨by omega, by omega⟩⟩ (fun h40 => (by exfalso; omega)) (fun h40 => ?_)
            refine z_il3 eX12_rows_43 ?_
            refine z_bipush eX12_rows_44 (by decide) ?_
            refine z_icmp_ge (tgt := 87) eX12_rows_46 rfl ⟨⟨by omega, by omega⟩, ⟨by omega, by omega⟩⟩ (fun h46 => ?_) (fun h46 => (by exfalso; omega))
            exact h1
          · have h9 := hI.2 (by omega)
            rw [show (10 - ago).toNat = k - 1 by omega] at h9
            have hw : qWay (σ 5) (σ 1) n c k t = zif (qBad (σ 5) (σ 1) n c ago t) 0 (zsum (fun s => if 0 < σ 1 (13 + 5 * s + t) then qWay (σ 5) (σ 1) n c (k - 1) s else 0) 5) := by
              obtain ⟨k', e⟩ : ∃ k', k = k' + 1 := ⟨k - 1, by omega⟩
              rw [e, show k' + 1 - 1 = k' by omega, show ago = 10 - (k' : Int) by omega]
              rfl
            have w37 : ∀ s : Int, 0 ≤ s → s ≤ 5 → ∀ S : zMem, zRwI σ n c ago S → (∀ j, 0 ≤ j → j < t → S 10 j = qWay (σ 5) (σ 1) n c k j) → S 10 t = zsum (fun s => if 0 < σ 1 (13 + 5 * s + t) then qWay (σ 5) (σ 1) n c (k - 1) s else 0) s → zW G KX12_rows 69 Q 37 [zP x, zI n, zI c, zI ago, zI t, zI s] [] lay (rC x S C0) nx (0, 0) := by
              refine z_up 5 ?_ ?_
              · intro S hI h10 hB
                refine z_il5 eX12_rows_37 ?_
                refine z_iconst eX12_rows_39 ?_
                refine z_icmp_ge (tgt := 87) eX12_rows_40 rfl ⟨⟨by omega, by omega⟩, ⟨by omega, by omega⟩⟩ (fun h40 => ?_) (fun h40 => (by exfalso; omega))
                exact w87 _ S _ hI h10 hB hw
              · intro s s0 s1 ih3 S hI h10 hB
                have hS1 := hI.1.r1
                have hW := hM.1.1.W (s := s) (t := t) ⟨s0, s1⟩ ⟨t0, t1⟩
                have e9 := hI.2 (by omega) s s0 s1
                rw [show (10 - ago).toNat = k - 1 by omega] at e9
                rw [zsum_s _ s0, ← hB] at ih3
                refine z_il5 eX12_rows_37 ?_
                refine z_iconst eX12_rows_39 ?_
                refine z_icmp_ge (tgt := 87) eX12_rows_40 rfl ⟨⟨by omega, by omega⟩, ⟨by omega, by omega⟩⟩ (fun h40 => (by exfalso; omega)) (fun h40 => ?_)
                refine z_il3 eX12_rows_43 ?_
                refine z_bipush eX12_rows_44 (by decide) ?_
                refine z_icmp_ge (tgt := 87) eX12_rows_46 rfl ⟨⟨by omega, by omega⟩, ⟨by omega, by omega⟩⟩ (fun h46 => (by exfalso; omega)) (fun h46 => ?_)
                refine z_al0 eX12_rows_49 hR.ne ?_
                refine z_ra lX12_42 eX12_rows_50 rfl hR rfl ?_
                try rw [hS1]
                refine z_il4 eX12_rows_53 ?_
                refine z_dup2 eX12_rows_55 (Nat.ne_of_beq_eq_false rfl) (Nat.ne_of_beq_eq_false rfl) ?_
                refine z_rlJ eX12_rows_56 hR (by decide) rfl rfl ⟨by omega, by omega⟩ ?_
                try rw [hS1]
                refine z_al0 eX12_rows_57 hR.ne ?_
                refine z_il5 eX12_rows_58 ?_
                refine z_il4 eX12_rows_60 ?_
                refine z_V2 eX12_rows_62 vX12_59 rfl rfl (Nat.le_of_ble_eq_true rfl) (Nat.le_of_ble_eq_true rfl) hR.x (m_X12_weight hR ⟨by omega, by omega⟩ ⟨by omega, by omega⟩) ?_
                try rw [hS1]
                refine z_if_le (tgt := 78) eX12_rows_65 rfl ⟨by omega, by omega⟩ (fun h65 => ?_) (fun h65 => ?_)
                · refine z_lconst0 eX12_rows_78 ?_
                  refine z_ladd eX12_rows_79 ?_
                  refine z_rsJ eX12_rows_80 hR (by decide) rfl rfl ⟨by omega, by omega⟩ ?_
                  refine z_ii5 eX12_rows_81 (Nat.ne_of_beq_eq_false rfl) ?_
                  refine z_goto eX12_rows_84 (tgt := 37) rfl ?_
                  first | (rw [if_pos (by omega)] at ih3; exact ih3 _ hI.put (fun j j0 j1 => by rw [zset_at, if_neg (by omega)]; exact h10 j j0 j1) zset_eq) | (rw [if_neg (by omega)] at ih3; exact ih3 _ hI.put (fun j j0 j1 => by rw [zset_at, if_neg (by omega)]; exact h10 j j0 j1) zset_eq) | fail
                · refine z_al0 eX12_rows_68 hR.ne ?_
                  refine z_ra lX12_38 eX12_rows_69 rfl hR rfl ?_
                  try rw [hS1]
                  refine z_il5 eX12_rows_72 ?_
                  refine z_rlJ eX12_rows_74 hR (by decide) rfl rfl ⟨by omega, by omega⟩ ?_
                  try rw [hS1]
                  rw [e9]
                  refine z_goto eX12_rows_75 (tgt := 79) rfl ?_
                  refine z_ladd eX12_rows_79 ?_
                  refine z_rsJ eX12_rows_80 hR (by decide) rfl rfl ⟨by omega, by omega⟩ ?_
                  refine z_ii5 eX12_rows_81 (Nat.ne_of_beq_eq_false rfl) ?_
                  refine z_goto eX12_rows_84 (tgt := 37) rfl ?_
                  first | (rw [if_pos (by omega)] at ih3; exact ih3 _ hI.put (fun j j0 j1 => by rw [zset_at, if_neg (by omega)]; exact h10 j j0 j1) zset_eq) | (rw [if_neg (by omega)] at ih3; exact ih3 _ hI.put (fun j j0 j1 => by rw [zset_at, if_neg (by omega)]; exact h10 j j0 j1) zset_eq) | fail
            have h1 := w37 0 (by decide) (by decide) (zset S 10 t 0) hI.put (fun j j0 j1 => by rw [zset_at, if_neg (by omega)]; exact h10 j j0 j1) zset_eq
            refine z_il4 eX12_rows_10 ?_
            refine z_iconst eX12_rows_12 ?_
            refine z_icmp_ge (tgt := 123) eX12_rows_13 rfl ⟨⟨by omega, by omega⟩, ⟨by omega, by omega⟩⟩ (fun h13 => (by exfalso; omega)) (fun h13 => ?_)
            refine z_al0 eX12_rows_16 hR.ne ?_
            refine z_ra lX12_42 eX12_rows_17 rfl hR rfl ?_
            refine z_il4 eX12_rows_20 ?_
            refine z_il3 eX12_rows_22 ?_
            refine z_bipush eX12_rows_23 (by decide) ?_
            refine z_icmp_ne (tgt := 32) eX12_rows_25 rfl ⟨⟨by omega, by omega⟩, ⟨by omega, by omega⟩⟩ (fun h25 => ?_) (fun h25 => (by exfalso; omega))
            refine z_lconst0 eX12_rows_32 ?_
            refine z_rsJ eX12_rows_33 hR (by decide) rfl rfl ⟨by omega, by omega⟩ ?_
            refine z_iconst eX12_rows_34 ?_
            refine z_is5 eX12_rows_35 (Nat.ne_of_beq_eq_false rfl) ?_
            exact h1
      refine z_il3 eX12_rows_3 ?_
      refine z_if_lt (tgt := 158) eX12_rows_4 rfl ⟨by omega, by omega⟩ (fun h4 => (by exfalso; omega)) (fun h4 => ?_)
      refine z_iconst eX12_rows_7 ?_
      refine z_is4 eX12_rows_8 (Nat.ne_of_beq_eq_false rfl) ?_
      exact w10 0 (by decide) (by decide) S y5 hI (fun j j0 j1 => by omega)
  refine z_bipush eX12_rows_0 (by decide) ?_
  refine z_is3 eX12_rows_2 (Nat.ne_of_beq_eq_false rfl) ?_
  exact w3 11 (by decide) (by decide) σ _ _ ⟨zScx.refl hJ, fun z => by omega⟩
theorem m_X12_waysOfAll {G : zG} {lay : zLay} {σ C0 : zMem} {nx x : Int} (hR : RefL lay x) : zMM G 1 KX12_waysOfAll [zP x] lay (rC x σ C0) nx (0, 0) (zR (some (zJ (zsum (fun t => σ 9 t) 5))) lay (rC x σ C0) nx) := by
  refine z_met' (L := [zP x, zU, zU, zU]) gX12_waysOfAll.1 rfl rfl (Nat.le_of_ble_eq_true rfl) rfl ?_
  have hl : ∀ t : Int, 0 ≤ t → t ≤ 5 → zW G KX12_waysOfAll 1 (zR (some (zJ (zsum (fun t => σ 9 t) 5))) lay (rC x σ C0) nx) 4 [zP x, zJ (zsum (fun t => σ 9 t) t), zU, zI t] [] lay (rC x σ C0) nx (0, 0) := by
    refine z_up 5 ?_ ?_
    · skip
      refine z_il3 eX12_waysOfAll_4 ?_
      refine z_iconst eX12_waysOfAll_5 ?_
      refine z_icmp_ge (tgt := 24) eX12_waysOfAll_6 rfl ⟨⟨by omega, by omega⟩, ⟨by omega, by omega⟩⟩ (fun h6 => ?_) (fun h6 => (by exfalso; omega))
      refine z_ll1 eX12_waysOfAll_24 ?_
      refine z_lreturn eX12_waysOfAll_25 rfl ?_
      exact ⟨rfl, rfl, rfl, rfl⟩
    · intro t t0 t1 ih
      rw [zsum_s _ t0] at ih
      refine z_il3 eX12_waysOfAll_4 ?_
      refine z_iconst eX12_waysOfAll_5 ?_
      refine z_icmp_ge (tgt := 24) eX12_waysOfAll_6 rfl ⟨⟨by omega, by omega⟩, ⟨by omega, by omega⟩⟩ (fun h6 => (by exfalso; omega)) (fun h6 => ?_)
      refine z_ll1 eX12_waysOfAll_9 ?_
      refine z_al0 eX12_waysOfAll_10 hR.ne ?_
      refine z_ra lX12_38 eX12_waysOfAll_11 rfl hR rfl ?_
      refine z_il3 eX12_waysOfAll_14 ?_
      refine z_rlJ eX12_waysOfAll_15 hR (by decide) rfl rfl ⟨by omega, by omega⟩ ?_
      refine z_ladd eX12_waysOfAll_16 ?_
      refine z_ls1 eX12_waysOfAll_17 (Nat.ne_of_beq_eq_false rfl) ?_
      refine z_ii3 eX12_waysOfAll_18 (Nat.ne_of_beq_eq_false rfl) ?_
      refine z_goto eX12_waysOfAll_21 (tgt := 4) rfl ?_
      exact ih
  refine z_lconst0 eX12_waysOfAll_0 ?_
  refine z_ls1 eX12_waysOfAll_1 (Nat.ne_of_beq_eq_false rfl) ?_
  refine z_iconst eX12_waysOfAll_2 ?_
  refine z_is3 eX12_waysOfAll_3 (Nat.ne_of_beq_eq_false rfl) ?_
  exact hl 0 (by decide) (by decide)
