/-! The table of what hours bring, walked. -/
theorem qPap_s (M : Int → Int) (n : Nat) (set : Int) : qPap M (n + 1) set = zfold (qPapK M (11 - n) (qPap M n) set) (qPap M n set) (M 4) := rfl
def zPapI (σ : zMem) (h : Int) (S : zMem) : Prop := zScx σ S ∧ ∀ h' set, h < h' → h' ≤ 12 → 0 ≤ set → set < 256 → S 11 (256 * h' + set) = qPap (σ 1) (12 - h').toNat set
theorem zPapI.put {σ S : zMem} {h j v : Int} (hI : zPapI σ h S) (hj : 0 ≤ j ∧ j < 256 * h + 256) : zPapI σ h (zset S 11 j v) := by
  refine ⟨hI.1.trans ((zScx.refl hI.1.2.2).trans ⟨fun i _ => by rw [zset_o (by decide)], fun o o1 o5 => zset_o (by omega), hI.1.2.2.set (by decide) (fun z => by omega)⟩), fun h' set a b c d => ?_⟩
  rw [zset_at, if_neg (by omega)]
  exact hI.2 h' set a b c d
theorem m_X12_papers {G : zG} {lay : zLay} {σ C0 : zMem} {nx x : Int} (hR : RefL lay x) (hS : TxS lay C0) (hJ : zJs σ) (hM : zOL (σ 1)) : zMM G 70 KX12_papers [zP x] lay (rC x σ C0) nx (0, 0) (zX' none (fun q => zScx σ q ∧ ∀ h set, σ 1 6 ≤ h → h ≤ 12 → 0 ≤ set → set < 256 → q 11 (256 * h + set) = qPap (σ 1) (12 - h).toNat set) lay C0 nx x) := by
  refine z_met' (L := [zP x, zU, zU, zU, zU]) gX12_papers.1 rfl rfl (Nat.le_of_ble_eq_true rfl) rfl ?_
  have hm4 := hM.1.1.m4
  have h6 := hM.1.1.s 6 rfl (by omega)
  have hout : ∀ h : Int, σ 1 6 - 1 ≤ h → h < 12 → ∀ (S : zMem) (y2 y3 y4 : zAV), y2.1 ≠ 1 → y3.1 ≠ 1 → zPapI σ h S → zW G KX12_papers 70 (zX' none (fun q => zScx σ q ∧ ∀ h set, σ 1 6 ≤ h → h ≤ 12 → 0 ≤ set → set < 256 → q 11 (256 * h + set) = qPap (σ 1) (12 - h).toNat set) lay C0 nx x) 29 [zP x, zI h, y2, y3, y4] [] lay (rC x S C0) nx (0, 0) := by
    refine z_dnto (σ 1 6) 12 ?_ ?_
    · intro S y2 y3 y4 _ _ hI
      have hS1 := hI.1.r1
      refine z_il1 eX12_papers_29 ?_
      refine z_al0 eX12_papers_30 hR.ne ?_
      refine z_ra lX12_7 eX12_papers_31 rfl hR rfl ?_
      try rw [hS1]
      refine z_bipush eX12_papers_34 (by decide) ?_
      refine z_rl eX12_papers_36 hR (by decide) rfl rfl ⟨by omega, by omega⟩ ?_
      try rw [hS1]
      refine z_icmp_lt (tgt := 196) eX12_papers_37 rfl ⟨⟨by omega, by omega⟩, ⟨by omega, by omega⟩⟩ (fun h37 => ?_) (fun h37 => (by exfalso; omega))
      refine z_return eX12_papers_196 rfl ?_
      exact zXv ⟨hI.1, fun h set a b c d => hI.2 h set (by omega) b c d⟩
    · intro h h0 h1 ih S y2 y3 y4 hy2 hy3 hI
      generalize hn : (11 - h).toNat = n
      have hnI : (n : Int) = 11 - h := by omega
      have hT : ∀ set, 0 ≤ qPap (σ 1) n set ∧ qPap (σ 1) n set ≤ 5000000 * n := qPap_bd hM.1 n (by omega)
      have hnext : ∀ S' set, zPapI σ h S' → 0 ≤ set → set < 256 → S' 11 (256 * (h + 1) + set) = qPap (σ 1) n set := fun S' set hI' a b => by
        rw [hI'.2 (h + 1) set (by omega) (by omega) a b, show (12 - (h + 1)).toNat = n by omega]
      have h83 : ∀ k : Int, 0 ≤ k → k ≤ σ 1 4 → ∀ (S : zMem) (y3 y4 : zAV), y3.1 ≠ 1 → zPapI σ h S → (∀ set, 0 ≤ set → set < 256 → S 11 (256 * h + set) = zfold (qPapK (σ 1) h (qPap (σ 1) n) set) (qPap (σ 1) n set) k) → zW G KX12_papers 70 (zX' none (fun q => zScx σ q ∧ ∀ h set, σ 1 6 ≤ h → h ≤ 12 → 0 ≤ set → set < 256 → q 11 (256 * h + set) = qPap (σ 1) (12 - h).toNat set) lay C0 nx x) 83 [zP x, zI h, zI k, y3, y4] [] lay (rC x S C0) nx (0, 0) := by
        refine z_up (σ 1 4) ?_ ?_
        · intro S y3 y4 hy3 hI hP
          have hS1 := hI.1.r1
          have hI2 : zPapI σ (h - 1) S := by
            refine ⟨hI.1, fun h' set a b c d => ?_⟩
            by_cases e : h' = h
            · rw [e, hP set c d, show (12 - h).toNat = n + 1 by omega]
              rw [qPap_s, show (11 : Int) - (n : Int) = h by omega]
            · exact hI.2 h' set (by omega) b c d
          refine z_il2 eX12_papers_83 ?_
          refine z_al0 eX12_papers_84 hR.ne ?_
          refine z_ra lX12_7 eX12_papers_85 rfl hR rfl ?_
          try rw [hS1]
          refine z_iconst eX12_papers_88 ?_
          refine z_rl eX12_papers_89 hR (by decide) rfl rfl ⟨by omega, by omega⟩ ?_
          try rw [hS1]
          refine z_icmp_ge (tgt := 190) eX12_papers_90 rfl ⟨⟨by omega, by omega⟩, ⟨by omega, by omega⟩⟩ (fun h90 => ?_) (fun h90 => (by exfalso; omega))
          refine z_ii1 eX12_papers_190 (Nat.ne_of_beq_eq_false rfl) ?_
          refine z_goto eX12_papers_193 (tgt := 29) rfl ?_
          exact ih S _ _ _ (Nat.ne_of_beq_eq_false rfl) hy3 hI2
        · intro k k0 k1 ih2 S y3 y4 hy3 hI hP
          have hV := hM.1.1.V (k := k) ⟨k0, by omega⟩
          have hbr := qBring_bd hM.1 (k := k) (h := h) ⟨k0, by omega⟩ h0
          have h103 : ∀ j : Int, 0 ≤ j → j ≤ 256 → ∀ S : zMem, zPapI σ h S → (∀ set, 0 ≤ set → set < 256 → S 11 (256 * h + set) = if set < j then zfold (qPapK (σ 1) h (qPap (σ 1) n) set) (qPap (σ 1) n set) (k + 1) else zfold (qPapK (σ 1) h (qPap (σ 1) n) set) (qPap (σ 1) n set) k) → zW G KX12_papers 70 (zX' none (fun q => zScx σ q ∧ ∀ h set, σ 1 6 ≤ h → h ≤ 12 → 0 ≤ set → set < 256 → q 11 (256 * h + set) = qPap (σ 1) (12 - h).toNat set) lay C0 nx x) 103 [zP x, zI h, zI k, zI (qBring (σ 1) k h), zI j] [] lay (rC x S C0) nx (0, 0) := by
            refine z_up 256 ?_ ?_
            · intro S hI hP
              refine z_il4 eX12_papers_103 ?_
              refine z_sipush eX12_papers_105 (by decide) ?_
              refine z_icmp_ge (tgt := 184) eX12_papers_108 rfl ⟨⟨by omega, by omega⟩, ⟨by omega, by omega⟩⟩ (fun h108 => ?_) (fun h108 => (by exfalso; omega))
              refine z_ii2 eX12_papers_184 (Nat.ne_of_beq_eq_false rfl) ?_
              refine z_goto eX12_papers_187 (tgt := 83) rfl ?_
              exact ih2 S _ _ (Nat.ne_of_beq_eq_false rfl) hI (fun set a b => by rw [hP set a b, if_pos b])
            · intro j j0 j1 ih3 S hI hP
              have hS1 := hI.1.r1
              have hz := zor_256 (s := j) (k := k) ⟨j0, j1⟩ ⟨k0, by omega⟩
              have hPj := hP j j0 j1
              rw [if_neg (by omega)] at hPj
              have hb1 := qPapF_bd hM.1 (h := h) (c := 5000000 * n) h0 hT j (n := k) ⟨k0, by omega⟩
              have hb2 := hT (zor j (zshl 1 k))
              have hnx := hnext S (zor j (zshl 1 k)) hI hz.1 hz.2
              have hst : zfold (qPapK (σ 1) h (qPap (σ 1) n) j) (qPap (σ 1) n j) (k + 1) = qPapK (σ 1) h (qPap (σ 1) n) j k (zfold (qPapK (σ 1) h (qPap (σ 1) n) j) (qPap (σ 1) n j) k) := zfold_s _ _ k0
              generalize zfold (qPapK (σ 1) h (qPap (σ 1) n) j) (qPap (σ 1) n j) k = cur at hst hPj hb1
              have hno : qPapK (σ 1) h (qPap (σ 1) n) j k cur = cur → ∀ set, 0 ≤ set → set < 256 → S 11 (256 * h + set) = if set < j + 1 then zfold (qPapK (σ 1) h (qPap (σ 1) n) set) (qPap (σ 1) n set) (k + 1) else zfold (qPapK (σ 1) h (qPap (σ 1) n) set) (qPap (σ 1) n set) k := by
                intro hq set a b
                by_cases e : set = j
                · rw [e, if_pos (by omega), hst, hq, hPj]
                · rw [hP set a b]
                  by_cases e2 : set < j
                  · rw [if_pos e2, if_pos (by omega)]
                  · rw [if_neg e2, if_neg (by omega)]
              have hyes : qPapK (σ 1) h (qPap (σ 1) n) j k cur = qGr cur (qBring (σ 1) k h + qPap (σ 1) n (zor j (zshl 1 k))) → ∀ set, 0 ≤ set → set < 256 → zset S 11 (256 * h + j) (qGr cur (qBring (σ 1) k h + qPap (σ 1) n (zor j (zshl 1 k)))) 11 (256 * h + set) = if set < j + 1 then zfold (qPapK (σ 1) h (qPap (σ 1) n) set) (qPap (σ 1) n set) (k + 1) else zfold (qPapK (σ 1) h (qPap (σ 1) n) set) (qPap (σ 1) n set) k := by
                intro hq set a b
                by_cases e : set = j
                · rw [e, zset_eq, if_pos (by omega), hst, hq]
                · rw [zset_at, if_neg (by omega), hP set a b]
                  by_cases e2 : set < j
                  · rw [if_pos e2, if_pos (by omega)]
                  · rw [if_neg e2, if_neg (by omega)]
              refine z_il4 eX12_papers_103 ?_
              refine z_sipush eX12_papers_105 (by decide) ?_
              refine z_icmp_ge (tgt := 184) eX12_papers_108 rfl ⟨⟨by omega, by omega⟩, ⟨by omega, by omega⟩⟩ (fun h108 => (by exfalso; omega)) (fun h108 => ?_)
              refine z_al0 eX12_papers_111 hR.ne ?_
              refine z_il2 eX12_papers_112 ?_
              refine z_V1 eX12_papers_113 vX12_308 rfl rfl (Nat.le_of_ble_eq_true rfl) (Nat.le_of_ble_eq_true rfl) hR.x (m_X12_waits hR ⟨by omega, by omega⟩ (by rw [hS1]; exact ⟨by omega, by omega⟩)) ?_
              try rw [hS1]
              refine z_ifb_eq (tgt := 178) eX12_papers_116 rfl (fun h116 => ?_) (fun h116 => ?_)
              · refine z_ii4 eX12_papers_178 (Nat.ne_of_beq_eq_false rfl) ?_
                refine z_goto eX12_papers_181 (tgt := 103) rfl ?_
                first | (have e2 : ¬ zbit j k = 1 := h125; exact ih3 _ (hI.put ⟨by omega, by omega⟩) (hyes (by unfold qPapK; rw [if_pos ⟨h116, e2⟩]))) | (have e2 := h125; exact ih3 S hI (hno (by unfold qPapK; rw [if_neg (fun z => z.2 e2)]))) | exact ih3 S hI (hno (by unfold qPapK; rw [if_neg (fun z => h116 z.1)])) | fail
              · refine z_il4 eX12_papers_119 ?_
                refine z_il2 eX12_papers_121 ?_
                refine z_S2 eX12_papers_122 vX12_290 rfl rfl (Nat.le_of_ble_eq_true rfl) (Nat.le_of_ble_eq_true rfl) (m_X12_isOf ) ?_
                try rw [hS1]
                refine z_ifb_ne (tgt := 178) eX12_papers_125 rfl (fun h125 => ?_) (fun h125 => ?_)
                · refine z_ii4 eX12_papers_178 (Nat.ne_of_beq_eq_false rfl) ?_
                  refine z_goto eX12_papers_181 (tgt := 103) rfl ?_
                  first | (have e2 : ¬ zbit j k = 1 := h125; exact ih3 _ (hI.put ⟨by omega, by omega⟩) (hyes (by unfold qPapK; rw [if_pos ⟨h116, e2⟩]))) | (have e2 := h125; exact ih3 S hI (hno (by unfold qPapK; rw [if_neg (fun z => z.2 e2)]))) | exact ih3 S hI (hno (by unfold qPapK; rw [if_neg (fun z => h116 z.1)])) | fail
                · refine z_al0 eX12_papers_128 hR.ne ?_
                  refine z_ra lX12_45 eX12_papers_129 rfl hR rfl ?_
                  try rw [hS1]
                  refine z_sipush eX12_papers_132 (by decide) ?_
                  refine z_il1 eX12_papers_135 ?_
                  refine z_imul eX12_papers_136 ?_
                  refine z_il4 eX12_papers_137 ?_
                  refine z_iadd eX12_papers_139 ?_
                  refine z_al0 eX12_papers_140 hR.ne ?_
                  refine z_ra lX12_45 eX12_papers_141 rfl hR rfl ?_
                  try rw [hS1]
                  refine z_sipush eX12_papers_144 (by decide) ?_
                  refine z_il1 eX12_papers_147 ?_
                  refine z_imul eX12_papers_148 ?_
                  refine z_il4 eX12_papers_149 ?_
                  refine z_iadd eX12_papers_151 ?_
                  refine z_rl eX12_papers_152 hR (by decide) rfl rfl ⟨by omega, by omega⟩ ?_
                  try rw [hS1]
                  rw [hPj]
                  refine z_il3 eX12_papers_153 ?_
                  refine z_al0 eX12_papers_154 hR.ne ?_
                  refine z_ra lX12_45 eX12_papers_155 rfl hR rfl ?_
                  try rw [hS1]
                  refine z_sipush eX12_papers_158 (by decide) ?_
                  refine z_il1 eX12_papers_161 ?_
                  refine z_iconst eX12_papers_162 ?_
                  refine z_iadd eX12_papers_163 ?_
                  refine z_imul eX12_papers_164 ?_
                  refine z_il4 eX12_papers_165 ?_
                  refine z_iconst eX12_papers_167 ?_
                  refine z_il2 eX12_papers_168 ?_
                  refine z_ishl eX12_papers_169 ?_
                  refine z_ior eX12_papers_170 ?_
                  refine z_iadd eX12_papers_171 ?_
                  refine z_rl eX12_papers_172 hR (by decide) rfl rfl ⟨by omega, by omega⟩ ?_
                  try rw [hS1]
                  rw [hnx]
                  refine z_iadd eX12_papers_173 ?_
                  refine z_S2 eX12_papers_174 vX12_274 rfl rfl (Nat.le_of_ble_eq_true rfl) (Nat.le_of_ble_eq_true rfl) (m_X12_greater ⟨⟨by omega, by omega⟩, ⟨by omega, by omega⟩⟩) ?_
                  try rw [hS1]
                  change zW _ _ _ _ _ _ (zI (qGr _ _) :: _) _ _ _ _
                  refine z_rs eX12_papers_177 hR (by decide) rfl rfl ⟨by omega, by omega⟩ ?_
                  refine z_ii4 eX12_papers_178 (Nat.ne_of_beq_eq_false rfl) ?_
                  refine z_goto eX12_papers_181 (tgt := 103) rfl ?_
                  first | (have e2 : ¬ zbit j k = 1 := h125; exact ih3 _ (hI.put ⟨by omega, by omega⟩) (hyes (by unfold qPapK; rw [if_pos ⟨h116, e2⟩]))) | (have e2 := h125; exact ih3 S hI (hno (by unfold qPapK; rw [if_neg (fun z => z.2 e2)]))) | exact ih3 S hI (hno (by unfold qPapK; rw [if_neg (fun z => h116 z.1)])) | fail
          have hS1 := hI.1.r1
          refine z_il2 eX12_papers_83 ?_
          refine z_al0 eX12_papers_84 hR.ne ?_
          refine z_ra lX12_7 eX12_papers_85 rfl hR rfl ?_
          try rw [hS1]
          refine z_iconst eX12_papers_88 ?_
          refine z_rl eX12_papers_89 hR (by decide) rfl rfl ⟨by omega, by omega⟩ ?_
          try rw [hS1]
          refine z_icmp_ge (tgt := 190) eX12_papers_90 rfl ⟨⟨by omega, by omega⟩, ⟨by omega, by omega⟩⟩ (fun h90 => (by exfalso; omega)) (fun h90 => ?_)
          refine z_al0 eX12_papers_93 hR.ne ?_
          refine z_il2 eX12_papers_94 ?_
          refine z_il1 eX12_papers_95 ?_
          refine z_V2x eX12_papers_96 vX12_361 rfl rfl (Nat.le_of_ble_eq_true rfl) (Nat.le_of_ble_eq_true rfl) hR.x (m_X12_bringsIn hR hS hI.1.2.2 (by rw [hS1]; exact hM) ⟨by omega, by omega⟩ (by rw [hS1]; exact ⟨by omega, by omega⟩)) (fun s96 hs96 => ?_)
          try rw [hS1]
          refine z_is3 eX12_papers_99 (Nat.ne_of_beq_eq_false rfl) ?_
          refine z_iconst eX12_papers_100 ?_
          refine z_is4 eX12_papers_101 (Nat.ne_of_beq_eq_false rfl) ?_
          have h11 := hs96.r11; exact h103 0 (by decide) (by decide) s96 ⟨hI.1.trans hs96.x, fun h' set a b c d => by rw [h11]; exact hI.2 h' set a b c d⟩ (fun set a b => by rw [if_neg (by omega), h11]; exact hP set a b)
      have h42 : ∀ j : Int, 0 ≤ j → j ≤ 256 → ∀ S : zMem, zPapI σ h S → (∀ set, 0 ≤ set → set < j → S 11 (256 * h + set) = qPap (σ 1) n set) → zW G KX12_papers 70 (zX' none (fun q => zScx σ q ∧ ∀ h set, σ 1 6 ≤ h → h ≤ 12 → 0 ≤ set → set < 256 → q 11 (256 * h + set) = qPap (σ 1) (12 - h).toNat set) lay C0 nx x) 42 [zP x, zI h, zI j, y3, y4] [] lay (rC x S C0) nx (0, 0) := by
        refine z_up 256 ?_ ?_
        · intro S hI hP
          refine z_il2 eX12_papers_42 ?_
          refine z_sipush eX12_papers_43 (by decide) ?_
          refine z_icmp_ge (tgt := 81) eX12_papers_46 rfl ⟨⟨by omega, by omega⟩, ⟨by omega, by omega⟩⟩ (fun h46 => ?_) (fun h46 => (by exfalso; omega))
          refine z_iconst eX12_papers_81 ?_
          refine z_is2 eX12_papers_82 (Nat.ne_of_beq_eq_false rfl) ?_
          exact h83 0 (by decide) hm4.1 S _ _ hy3 hI (fun set a b => by rw [zfold_0]; exact hP set a b)
        · intro j j0 j1 ih3 S hI hP
          have hnx := hnext S j hI j0 j1
          refine z_il2 eX12_papers_42 ?_
          refine z_sipush eX12_papers_43 (by decide) ?_
          refine z_icmp_ge (tgt := 81) eX12_papers_46 rfl ⟨⟨by omega, by omega⟩, ⟨by omega, by omega⟩⟩ (fun h46 => (by exfalso; omega)) (fun h46 => ?_)
          refine z_al0 eX12_papers_49 hR.ne ?_
          refine z_ra lX12_45 eX12_papers_50 rfl hR rfl ?_
          refine z_sipush eX12_papers_53 (by decide) ?_
          refine z_il1 eX12_papers_56 ?_
          refine z_imul eX12_papers_57 ?_
          refine z_il2 eX12_papers_58 ?_
          refine z_iadd eX12_papers_59 ?_
          refine z_al0 eX12_papers_60 hR.ne ?_
          refine z_ra lX12_45 eX12_papers_61 rfl hR rfl ?_
          refine z_sipush eX12_papers_64 (by decide) ?_
          refine z_il1 eX12_papers_67 ?_
          refine z_iconst eX12_papers_68 ?_
          refine z_iadd eX12_papers_69 ?_
          refine z_imul eX12_papers_70 ?_
          refine z_il2 eX12_papers_71 ?_
          refine z_iadd eX12_papers_72 ?_
          refine z_rl eX12_papers_73 hR (by decide) rfl rfl ⟨by omega, by omega⟩ ?_
          rw [hnx]
          refine z_rs eX12_papers_74 hR (by decide) rfl rfl ⟨by omega, by omega⟩ ?_
          refine z_ii2 eX12_papers_75 (Nat.ne_of_beq_eq_false rfl) ?_
          refine z_goto eX12_papers_78 (tgt := 42) rfl ?_
          refine ih3 _ (hI.put ⟨by omega, by omega⟩) (fun set a b => ?_)
          by_cases e : set = j
          · rw [e, zset_eq]
          · rw [zset_at, if_neg (by omega)]; exact hP set a (by omega)
      have hS1 := hI.1.r1
      refine z_il1 eX12_papers_29 ?_
      refine z_al0 eX12_papers_30 hR.ne ?_
      refine z_ra lX12_7 eX12_papers_31 rfl hR rfl ?_
      try rw [hS1]
      refine z_bipush eX12_papers_34 (by decide) ?_
      refine z_rl eX12_papers_36 hR (by decide) rfl rfl ⟨by omega, by omega⟩ ?_
      try rw [hS1]
      refine z_icmp_lt (tgt := 196) eX12_papers_37 rfl ⟨⟨by omega, by omega⟩, ⟨by omega, by omega⟩⟩ (fun h37 => (by exfalso; omega)) (fun h37 => ?_)
      refine z_iconst eX12_papers_40 ?_
      refine z_is2 eX12_papers_41 (Nat.ne_of_beq_eq_false rfl) ?_
      exact h42 0 (by decide) (by decide) S hI (fun set a b => by omega)
  have h2 : ∀ j : Int, 0 ≤ j → j ≤ 256 → ∀ S : zMem, zScx σ S → (∀ set, 0 ≤ set → set < j → S 11 (3072 + set) = 0) → zW G KX12_papers 70 (zX' none (fun q => zScx σ q ∧ ∀ h set, σ 1 6 ≤ h → h ≤ 12 → 0 ≤ set → set < 256 → q 11 (256 * h + set) = qPap (σ 1) (12 - h).toNat set) lay C0 nx x) 2 [zP x, zI j, zU, zU, zU] [] lay (rC x S C0) nx (0, 0) := by
    refine z_up 256 ?_ ?_
    · intro S hSc hP
      refine z_il1 eX12_papers_2 ?_
      refine z_sipush eX12_papers_3 (by decide) ?_
      refine z_icmp_ge (tgt := 26) eX12_papers_6 rfl ⟨⟨by omega, by omega⟩, ⟨by omega, by omega⟩⟩ (fun h6 => ?_) (fun h6 => (by exfalso; omega))
      refine z_bipush eX12_papers_26 (by decide) ?_
      refine z_is1 eX12_papers_28 (Nat.ne_of_beq_eq_false rfl) ?_
      refine hout 11 (by omega) (by decide) S _ _ _ (Nat.ne_of_beq_eq_false rfl) (Nat.ne_of_beq_eq_false rfl) ⟨hSc, fun h' set a b c d => ?_⟩
      rw [show h' = 12 by omega]
      exact hP set c d
    · intro j j0 j1 ih3 S hSc hP
      refine z_il1 eX12_papers_2 ?_
      refine z_sipush eX12_papers_3 (by decide) ?_
      refine z_icmp_ge (tgt := 26) eX12_papers_6 rfl ⟨⟨by omega, by omega⟩, ⟨by omega, by omega⟩⟩ (fun h6 => (by exfalso; omega)) (fun h6 => ?_)
      refine z_al0 eX12_papers_9 hR.ne ?_
      refine z_ra lX12_45 eX12_papers_10 rfl hR rfl ?_
      refine z_sipush eX12_papers_13 (by decide) ?_
      refine z_il1 eX12_papers_16 ?_
      refine z_iadd eX12_papers_17 ?_
      refine z_iconst eX12_papers_18 ?_
      refine z_rs eX12_papers_19 hR (by decide) rfl rfl ⟨by omega, by omega⟩ ?_
      refine z_ii1 eX12_papers_20 (Nat.ne_of_beq_eq_false rfl) ?_
      refine z_goto eX12_papers_23 (tgt := 2) rfl ?_
      refine ih3 _ ⟨fun i hi => by rw [zset_o (by decide)]; exact hSc.1 i hi, fun o o1 o5 => by rw [zset_o (by omega)]; exact hSc.2.1 o o1 o5, hSc.2.2.set (by decide) (fun z => by omega)⟩ (fun set a b => ?_)
      by_cases e : set = j
      · rw [e, zset_eq]
      · rw [zset_at, if_neg (by omega)]; exact hP set a (by omega)
  refine z_iconst eX12_papers_0 ?_
  refine z_is1 eX12_papers_1 (Nat.ne_of_beq_eq_false rfl) ?_
  exact h2 0 (by decide) (by decide) σ (zScx.refl hJ) (fun set a b => by omega)
