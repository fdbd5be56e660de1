/-! A shower; haste; who is wet. -/
noncomputable def qWorth (M : Int → Int) (set : Int) : Int := zsum (fun k => if zbit set k = 1 then M (74 + 5 * k + 2) else 0) (M 4)
noncomputable def qTakes (M : Int → Int) (set : Int) : Int := zsum (fun k => if zbit set k = 1 then M (74 + 5 * k + 1) else 0) (M 4)
theorem m_X12_worthOf {G : zG} {lay : zLay} {σ C0 : zMem} {nx x : Int} {n : Int} (hR : RefL lay x) (hm4 : 0 ≤ σ 1 4 ∧ σ 1 4 ≤ 8) : zMM G 2 KX12_worthOf [zP x, zI n] lay (rC x σ C0) nx (0, 0) (zR (some (zI (qWorth (σ 1) n))) lay (rC x (σ) C0) nx) := by
  refine z_met' (L := [zP x, zI n, zU, zU]) gX12_worthOf.1 rfl rfl (Nat.le_of_ble_eq_true rfl) rfl ?_
  have hl : ∀ t : Int, 0 ≤ t → t ≤ σ 1 4 → zW G KX12_worthOf 2 (zR (some (zI (qWorth (σ 1) n))) lay (rC x (σ) C0) nx) 4 [zP x, zI n, zI (zsum (fun k => if zbit n k = 1 then σ 1 (74 + 5 * k + 2) else 0) t), zI t] [] lay (rC x (σ) C0) nx (0, 0) := by
    refine z_up (σ 1 4) ?_ ?_
    · refine z_il3 eX12_worthOf_4 ?_
      refine z_al0 eX12_worthOf_5 hR.ne ?_
      refine z_ra lX12_7 eX12_worthOf_6 rfl hR rfl ?_
      refine z_iconst eX12_worthOf_9 ?_
      refine z_rl eX12_worthOf_10 hR (by decide) rfl rfl ⟨by omega, by omega⟩ ?_
      refine z_icmp_ge (tgt := 41) eX12_worthOf_11 rfl ⟨⟨by omega, by omega⟩, ⟨by omega, by omega⟩⟩ (fun h11 => ?_) (fun h11 => (by exfalso; omega))
      refine z_il2 eX12_worthOf_41 ?_
      refine z_ireturn eX12_worthOf_42 rfl ?_
      first | exact ⟨rfl, rfl, rfl, rfl⟩ | exact zRb1 (by omega) | exact zRb0 (by omega) | exact zRe (by omega)
    · intro t h0 h1 ih
      refine z_il3 eX12_worthOf_4 ?_
      refine z_al0 eX12_worthOf_5 hR.ne ?_
      refine z_ra lX12_7 eX12_worthOf_6 rfl hR rfl ?_
      refine z_iconst eX12_worthOf_9 ?_
      refine z_rl eX12_worthOf_10 hR (by decide) rfl rfl ⟨by omega, by omega⟩ ?_
      refine z_icmp_ge (tgt := 41) eX12_worthOf_11 rfl ⟨⟨by omega, by omega⟩, ⟨by omega, by omega⟩⟩ (fun h11 => (by exfalso; omega)) (fun h11 => ?_)
      refine z_il2 eX12_worthOf_14 ?_
      refine z_il1 eX12_worthOf_15 ?_
      refine z_il3 eX12_worthOf_16 ?_
      refine z_S2 eX12_worthOf_17 vX12_290 rfl rfl (Nat.le_of_ble_eq_true rfl) (Nat.le_of_ble_eq_true rfl) (m_X12_isOf ) ?_
      refine z_ifb_eq (tgt := 32) eX12_worthOf_20 rfl (fun h20 => ?_) (fun h20 => ?_)
      · refine z_iconst eX12_worthOf_32 ?_
        refine z_iadd eX12_worthOf_33 ?_
        refine z_is2 eX12_worthOf_34 (Nat.ne_of_beq_eq_false rfl) ?_
        refine z_ii3 eX12_worthOf_35 (Nat.ne_of_beq_eq_false rfl) ?_
        refine z_goto eX12_worthOf_38 (tgt := 4) rfl ?_
        first | (rw [zsum_s _ h0, if_pos h20] at ih; exact ih) | (rw [zsum_s _ h0, if_neg h20] at ih; exact ih)
      · refine z_al0 eX12_worthOf_23 hR.ne ?_
        refine z_il3 eX12_worthOf_24 ?_
        refine z_iconst eX12_worthOf_25 ?_
        refine z_V2 eX12_worthOf_26 vX12_55 rfl rfl (Nat.le_of_ble_eq_true rfl) (Nat.le_of_ble_eq_true rfl) hR.x (m_X12_ofMotion hR ⟨by omega, by omega⟩ (by decide)) ?_
        refine z_goto eX12_worthOf_29 (tgt := 33) rfl ?_
        refine z_iadd eX12_worthOf_33 ?_
        refine z_is2 eX12_worthOf_34 (Nat.ne_of_beq_eq_false rfl) ?_
        refine z_ii3 eX12_worthOf_35 (Nat.ne_of_beq_eq_false rfl) ?_
        refine z_goto eX12_worthOf_38 (tgt := 4) rfl ?_
        first | (rw [zsum_s _ h0, if_pos h20] at ih; exact ih) | (rw [zsum_s _ h0, if_neg h20] at ih; exact ih)
  refine z_iconst eX12_worthOf_0 ?_
  refine z_is2 eX12_worthOf_1 (Nat.ne_of_beq_eq_false rfl) ?_
  refine z_iconst eX12_worthOf_2 ?_
  refine z_is3 eX12_worthOf_3 (Nat.ne_of_beq_eq_false rfl) ?_
  exact hl 0 (by omega) (by omega)
theorem qWorth_bd {M : Int → Int} (hM : zOK M) (set : Int) : 0 ≤ qWorth M set ∧ qWorth M set ≤ 800 := by
  have h4 := hM.1.m4
  have := zsum_bnd (f := fun k => if zbit set k = 1 then M (74 + 5 * k + 2) else 0) (c := 99) h4.1 (fun t t0 t1 => by
    have hV := hM.1.V (k := t) ⟨t0, by omega⟩
    split <;> omega)
  unfold qWorth
  omega
theorem qTakes_bd {M : Int → Int} (hM : zOK M) (set : Int) {n : Int} (hn : 0 ≤ n ∧ n ≤ M 4) : 0 ≤ zsum (fun k => if zbit set k = 1 then M (74 + 5 * k + 1) else 0) n ∧ zsum (fun k => if zbit set k = 1 then M (74 + 5 * k + 1) else 0) n ≤ 72 := by
  have h4 := hM.1.m4
  have := zsum_bnd (f := fun k => if zbit set k = 1 then M (74 + 5 * k + 1) else 0) (c := 9) hn.1 (fun t t0 t1 => by
    have hV := hM.1.V (k := t) ⟨t0, by omega⟩
    split <;> omega)
  omega
/-- the motions that wait and are carried in the drizzle now -/
noncomputable def qMay (M : Int → Int) : Int := zors (fun k => if M (74 + 5 * k + 4) = 0 ∧ qGo M k 2 (M 6) = 1 then zshl 1 k else 0) (M 4)
noncomputable def qShow (M : Int → Int) (h n : Int) : Int := zfold (fun set found => if zand set (zxor (qMay M) (-1)) = 0 ∧ qTakes M set ≤ h ∧ qWorth M found < qWorth M set then set else found) 0 n
theorem m_X12_shower {G : zG} {lay : zLay} {σ C0 : zMem} {nx x : Int} {h : Int} {w : Int} (hR : RefL lay x) (hS : TxS lay C0) (hJ : zJs σ) (hM : zOL (σ 1)) (hh : zin h) (hw : w = 0 ∨ w = 1) : zMM G 69 KX12_shower [zP x, zI h, zI w] lay (rC x σ C0) nx (0, 0) (zX' (some (zI (if 0 ≤ h ∧ h ≤ 40 then (if w = 1 then qWorth (σ 1) (qShow (σ 1) h 256) else qShow (σ 1) h 256) else 0))) (zScr (zset σ 0 0 (if 0 ≤ h ∧ h ≤ 40 then 0 else 1))) lay C0 nx x) := by
  refine z_met' (L := [zP x, zI h, zI w, zU, zU, zU, zU, zU]) gX12_shower.1 rfl rfl (Nat.le_of_ble_eq_true rfl) rfl ?_
  obtain ⟨n1, n2⟩ := hh
  have hm4 := hM.1.1.m4
  have h6 := hM.1.1.s 6 rfl (by omega)
  have hJ1 : ∀ v, zJs (zset σ 0 0 v) := fun v => hJ.set (by decide) (fun _ => Or.inl rfl)
  by_cases hok : 0 ≤ h ∧ h ≤ 40
  · rw [if_pos hok, if_pos hok]
    generalize hQ : zX' _ _ lay C0 nx x = Q
    have w85 : ∀ set : Int, 0 ≤ set → set ≤ 256 → ∀ (S : zMem) (y6 y7 : zAV), y6.1 ≠ 1 → zScr (zset σ 0 0 0) S → zW G KX12_shower 69 Q 85 [zP x, zI h, zI w, zI (qMay (σ 1)), zI (qShow (σ 1) h set), zI set, y6, y7] [] lay (rC x S C0) nx (0, 0) := by
      refine z_up 256 ?_ ?_
      · subst hQ
        intro S y6 y7 hy hSc
        have hS1 : S 1 = σ 1 := by rw [hSc.r1, zset_001]
        refine z_il5 eX12_shower_85 ?_
        refine z_sipush eX12_shower_87 (by decide) ?_
        refine z_icmp_ge (tgt := 182) eX12_shower_90 rfl ⟨⟨by omega, by omega⟩, ⟨by omega, by omega⟩⟩ (fun h90 => ?_) (fun h90 => (by exfalso; omega))
        refine z_il2 eX12_shower_182 ?_
        refine z_if_eq (tgt := 195) eX12_shower_183 rfl ⟨by omega, by omega⟩ (fun h183 => ?_) (fun h183 => ?_)
        · refine z_il4 eX12_shower_195 ?_
          refine z_ireturn eX12_shower_197 rfl ?_
          first | (rw [if_pos (by omega)]; exact zXe hSc rfl) | (rw [if_neg (by omega)]; exact zXe hSc rfl)
        · refine z_al0 eX12_shower_186 hR.ne ?_
          refine z_il4 eX12_shower_187 ?_
          refine z_V1 eX12_shower_189 vX12_370 rfl rfl (Nat.le_of_ble_eq_true rfl) (Nat.le_of_ble_eq_true rfl) hR.x (m_X12_worthOf hR (by rw [hS1]; exact hm4)) ?_
          try rw [hS1]
          refine z_goto eX12_shower_192 (tgt := 197) rfl ?_
          refine z_ireturn eX12_shower_197 rfl ?_
          first | (rw [if_pos (by omega)]; exact zXe hSc rfl) | (rw [if_neg (by omega)]; exact zXe hSc rfl)
      · intro set s0 s1 ih S y6 y7 hy hSc
        have hS1 : S 1 = σ 1 := by rw [hSc.r1, zset_001]
        have e : qShow (σ 1) h (set + 1) = if zand set (zxor (qMay (σ 1)) (-1)) = 0 ∧ qTakes (σ 1) set ≤ h ∧ qWorth (σ 1) (qShow (σ 1) h set) < qWorth (σ 1) set then set else qShow (σ 1) h set := by unfold qShow; rw [zfold_s _ _ s0]
        rw [e] at ih
        generalize qShow (σ 1) h set = found at ih ⊢
        have b1 := qWorth_bd hM.1 set
        have b2 := qWorth_bd hM.1 found
        have hza := zand_in set (zxor (qMay (σ 1)) (-1))
        have w99 : ∀ t : Int, 0 ≤ t → t ≤ σ 1 4 → zW G KX12_shower 69 Q 99 [zP x, zI h, zI w, zI (qMay (σ 1)), zI found, zI set, zI (zsum (fun k => if zbit set k = 1 then σ 1 (74 + 5 * k + 1) else 0) t), zI t] [] lay (rC x S C0) nx (0, 0) := by
          refine z_up (σ 1 4) ?_ ?_
          · have hT := qTakes_bd hM.1 set (n := σ 1 4) ⟨hm4.1, Int.le_refl _⟩
            have hTe : qTakes (σ 1) set = zsum (fun k => if zbit set k = 1 then σ 1 (74 + 5 * k + 1) else 0) (σ 1 4) := rfl
            rw [hTe] at ih
            refine z_il7 eX12_shower_99 ?_
            refine z_al0 eX12_shower_101 hR.ne ?_
            refine z_ra lX12_7 eX12_shower_102 rfl hR rfl ?_
            try rw [hS1]
            refine z_iconst eX12_shower_105 ?_
            refine z_rl eX12_shower_106 hR (by decide) rfl rfl ⟨by omega, by omega⟩ ?_
            try rw [hS1]
            refine z_icmp_ge (tgt := 142) eX12_shower_107 rfl ⟨⟨by omega, by omega⟩, ⟨by omega, by omega⟩⟩ (fun h107 => ?_) (fun h107 => (by exfalso; omega))
            refine z_il5 eX12_shower_142 ?_
            refine z_il3 eX12_shower_144 ?_
            refine z_iconst eX12_shower_145 ?_
            refine z_ixor eX12_shower_146 ?_
            refine z_iand eX12_shower_147 ?_
            refine z_if_ne (tgt := 176) eX12_shower_148 rfl hza (fun h148 => ?_) (fun h148 => ?_)
            · refine z_ii5 eX12_shower_176 (Nat.ne_of_beq_eq_false rfl) ?_
              refine z_goto eX12_shower_179 (tgt := 85) rfl ?_
              first | (rw [if_pos ⟨by assumption, by omega, by omega⟩] at ih; exact ih S _ _ (Nat.ne_of_beq_eq_false rfl) hSc) | (rw [if_neg (by intro z; omega)] at ih; exact ih S _ _ (Nat.ne_of_beq_eq_false rfl) hSc) | fail
            · refine z_il6 eX12_shower_151 ?_
              refine z_il1 eX12_shower_153 ?_
              refine z_icmp_gt (tgt := 176) eX12_shower_154 rfl ⟨⟨by omega, by omega⟩, ⟨by omega, by omega⟩⟩ (fun h154 => ?_) (fun h154 => ?_)
              · refine z_ii5 eX12_shower_176 (Nat.ne_of_beq_eq_false rfl) ?_
                refine z_goto eX12_shower_179 (tgt := 85) rfl ?_
                first | (rw [if_pos ⟨by assumption, by omega, by omega⟩] at ih; exact ih S _ _ (Nat.ne_of_beq_eq_false rfl) hSc) | (rw [if_neg (by intro z; omega)] at ih; exact ih S _ _ (Nat.ne_of_beq_eq_false rfl) hSc) | fail
              · refine z_al0 eX12_shower_157 hR.ne ?_
                refine z_il5 eX12_shower_158 ?_
                refine z_V1 eX12_shower_160 vX12_370 rfl rfl (Nat.le_of_ble_eq_true rfl) (Nat.le_of_ble_eq_true rfl) hR.x (m_X12_worthOf hR (by rw [hS1]; exact hm4)) ?_
                try rw [hS1]
                refine z_al0 eX12_shower_163 hR.ne ?_
                refine z_il4 eX12_shower_164 ?_
                refine z_V1 eX12_shower_166 vX12_370 rfl rfl (Nat.le_of_ble_eq_true rfl) (Nat.le_of_ble_eq_true rfl) hR.x (m_X12_worthOf hR (by rw [hS1]; exact hm4)) ?_
                try rw [hS1]
                refine z_icmp_le (tgt := 176) eX12_shower_169 rfl ⟨⟨by omega, by omega⟩, ⟨by omega, by omega⟩⟩ (fun h169 => ?_) (fun h169 => ?_)
                · refine z_ii5 eX12_shower_176 (Nat.ne_of_beq_eq_false rfl) ?_
                  refine z_goto eX12_shower_179 (tgt := 85) rfl ?_
                  first | (rw [if_pos ⟨by assumption, by omega, by omega⟩] at ih; exact ih S _ _ (Nat.ne_of_beq_eq_false rfl) hSc) | (rw [if_neg (by intro z; omega)] at ih; exact ih S _ _ (Nat.ne_of_beq_eq_false rfl) hSc) | fail
                · refine z_il5 eX12_shower_172 ?_
                  refine z_is4 eX12_shower_174 (Nat.ne_of_beq_eq_false rfl) ?_
                  refine z_ii5 eX12_shower_176 (Nat.ne_of_beq_eq_false rfl) ?_
                  refine z_goto eX12_shower_179 (tgt := 85) rfl ?_
                  first | (rw [if_pos ⟨by assumption, by omega, by omega⟩] at ih; exact ih S _ _ (Nat.ne_of_beq_eq_false rfl) hSc) | (rw [if_neg (by intro z; omega)] at ih; exact ih S _ _ (Nat.ne_of_beq_eq_false rfl) hSc) | fail
          · intro t t0 t1 ih2
            have hV := hM.1.1.V (k := t) ⟨t0, by omega⟩
            rw [zsum_s _ t0] at ih2
            refine z_il7 eX12_shower_99 ?_
            refine z_al0 eX12_shower_101 hR.ne ?_
            refine z_ra lX12_7 eX12_shower_102 rfl hR rfl ?_
            try rw [hS1]
            refine z_iconst eX12_shower_105 ?_
            refine z_rl eX12_shower_106 hR (by decide) rfl rfl ⟨by omega, by omega⟩ ?_
            try rw [hS1]
            refine z_icmp_ge (tgt := 142) eX12_shower_107 rfl ⟨⟨by omega, by omega⟩, ⟨by omega, by omega⟩⟩ (fun h107 => (by exfalso; omega)) (fun h107 => ?_)
            refine z_il6 eX12_shower_110 ?_
            refine z_il5 eX12_shower_112 ?_
            refine z_il7 eX12_shower_114 ?_
            refine z_S2 eX12_shower_116 vX12_290 rfl rfl (Nat.le_of_ble_eq_true rfl) (Nat.le_of_ble_eq_true rfl) (m_X12_isOf ) ?_
            try rw [hS1]
            refine z_ifb_eq (tgt := 132) eX12_shower_119 rfl (fun h119 => ?_) (fun h119 => ?_)
            · refine z_iconst eX12_shower_132 ?_
              refine z_iadd eX12_shower_133 ?_
              refine z_is6 eX12_shower_134 (Nat.ne_of_beq_eq_false rfl) ?_
              refine z_ii7 eX12_shower_136 (Nat.ne_of_beq_eq_false rfl) ?_
              refine z_goto eX12_shower_139 (tgt := 99) rfl ?_
              first | (rw [if_pos h119] at ih2; exact ih2) | (rw [if_neg h119] at ih2; exact ih2) | fail
            · refine z_al0 eX12_shower_122 hR.ne ?_
              refine z_il7 eX12_shower_123 ?_
              refine z_iconst eX12_shower_125 ?_
              refine z_V2 eX12_shower_126 vX12_55 rfl rfl (Nat.le_of_ble_eq_true rfl) (Nat.le_of_ble_eq_true rfl) hR.x (m_X12_ofMotion hR ⟨by omega, by omega⟩ (by decide)) ?_
              try rw [hS1]
              refine z_goto eX12_shower_129 (tgt := 133) rfl ?_
              refine z_iadd eX12_shower_133 ?_
              refine z_is6 eX12_shower_134 (Nat.ne_of_beq_eq_false rfl) ?_
              refine z_ii7 eX12_shower_136 (Nat.ne_of_beq_eq_false rfl) ?_
              refine z_goto eX12_shower_139 (tgt := 99) rfl ?_
              first | (rw [if_pos h119] at ih2; exact ih2) | (rw [if_neg h119] at ih2; exact ih2) | fail
        refine z_il5 eX12_shower_85 ?_
        refine z_sipush eX12_shower_87 (by decide) ?_
        refine z_icmp_ge (tgt := 182) eX12_shower_90 rfl ⟨⟨by omega, by omega⟩, ⟨by omega, by omega⟩⟩ (fun h90 => (by exfalso; omega)) (fun h90 => ?_)
        refine z_iconst eX12_shower_93 ?_
        refine z_is6 eX12_shower_94 (Nat.ne_of_beq_eq_false rfl) ?_
        refine z_iconst eX12_shower_96 ?_
        refine z_is7 eX12_shower_97 (Nat.ne_of_beq_eq_false rfl) ?_
        exact w99 0 (by decide) hm4.1
    have w33 : ∀ k : Int, 0 ≤ k → k ≤ σ 1 4 → ∀ S : zMem, zScr (zset σ 0 0 0) S → zW G KX12_shower 69 Q 33 [zP x, zI h, zI w, zI (zors (fun k => if σ 1 (74 + 5 * k + 4) = 0 ∧ qGo (σ 1) k 2 (σ 1 6) = 1 then zshl 1 k else 0) k), zI k, zU, zU, zU] [] lay (rC x S C0) nx (0, 0) := by
      refine z_up (σ 1 4) ?_ ?_
      · intro S hSc
        have hS1 : S 1 = σ 1 := by rw [hSc.r1, zset_001]
        refine z_il4 eX12_shower_33 ?_
        refine z_al0 eX12_shower_35 hR.ne ?_
        refine z_ra lX12_7 eX12_shower_36 rfl hR rfl ?_
        try rw [hS1]
        refine z_iconst eX12_shower_39 ?_
        refine z_rl eX12_shower_40 hR (by decide) rfl rfl ⟨by omega, by omega⟩ ?_
        try rw [hS1]
        refine z_icmp_ge (tgt := 79) eX12_shower_41 rfl ⟨⟨by omega, by omega⟩, ⟨by omega, by omega⟩⟩ (fun h41 => ?_) (fun h41 => (by exfalso; omega))
        refine z_iconst eX12_shower_79 ?_
        refine z_is4 eX12_shower_80 (Nat.ne_of_beq_eq_false rfl) ?_
        refine z_iconst eX12_shower_82 ?_
        refine z_is5 eX12_shower_83 (Nat.ne_of_beq_eq_false rfl) ?_
        exact w85 0 (by decide) (by decide) S _ _ (Nat.ne_of_beq_eq_false rfl) hSc
      · intro k k0 k1 ih S hSc
        have hS1 : S 1 = σ 1 := by rw [hSc.r1, zset_001]
        have hV := hM.1.1.V (k := k) ⟨k0, by omega⟩
        rw [zors_s _ k0] at ih
        refine z_il4 eX12_shower_33 ?_
        refine z_al0 eX12_shower_35 hR.ne ?_
        refine z_ra lX12_7 eX12_shower_36 rfl hR rfl ?_
        try rw [hS1]
        refine z_iconst eX12_shower_39 ?_
        refine z_rl eX12_shower_40 hR (by decide) rfl rfl ⟨by omega, by omega⟩ ?_
        try rw [hS1]
        refine z_icmp_ge (tgt := 79) eX12_shower_41 rfl ⟨⟨by omega, by omega⟩, ⟨by omega, by omega⟩⟩ (fun h41 => (by exfalso; omega)) (fun h41 => ?_)
        refine z_il3 eX12_shower_44 ?_
        refine z_al0 eX12_shower_45 hR.ne ?_
        refine z_il4 eX12_shower_46 ?_
        refine z_V1 eX12_shower_48 vX12_308 rfl rfl (Nat.le_of_ble_eq_true rfl) (Nat.le_of_ble_eq_true rfl) hR.x (m_X12_waits hR ⟨by omega, by omega⟩ (by rw [hS1]; exact ⟨by omega, by omega⟩)) ?_
        try rw [hS1]
        refine z_ifb_eq (tgt := 70) eX12_shower_51 rfl (fun h51 => ?_) (fun h51 => ?_)
        · refine z_iconst eX12_shower_70 ?_
          refine z_ior eX12_shower_71 ?_
          refine z_is3 eX12_shower_72 (Nat.ne_of_beq_eq_false rfl) ?_
          refine z_ii4 eX12_shower_73 (Nat.ne_of_beq_eq_false rfl) ?_
          refine z_goto eX12_shower_76 (tgt := 33) rfl ?_
          first | (rw [if_pos ⟨h51, h60⟩] at ih; exact ih s57 (hSc.trans hs57)) | (have e2 := h60; rw [if_neg (fun z => e2 z.2)] at ih; exact ih s57 (hSc.trans hs57)) | (rw [if_neg (fun z => h51 z.1)] at ih; exact ih S hSc) | fail
        · refine z_al0 eX12_shower_54 hR.ne ?_
          refine z_il4 eX12_shower_55 ?_
          refine z_V1x eX12_shower_57 vX12_367 rfl rfl (Nat.le_of_ble_eq_true rfl) (Nat.le_of_ble_eq_true rfl) hR.x (m_X12_goesWet hR hS hSc.2.2 (by rw [hS1]; exact hM) ⟨by omega, by omega⟩) (fun s57 hs57 => ?_)
          try rw [hS1]
          refine z_ifb_eq (tgt := 70) eX12_shower_60 rfl (fun h60 => ?_) (fun h60 => ?_)
          · refine z_iconst eX12_shower_70 ?_
            refine z_ior eX12_shower_71 ?_
            refine z_is3 eX12_shower_72 (Nat.ne_of_beq_eq_false rfl) ?_
            refine z_ii4 eX12_shower_73 (Nat.ne_of_beq_eq_false rfl) ?_
            refine z_goto eX12_shower_76 (tgt := 33) rfl ?_
            first | (rw [if_pos ⟨h51, h60⟩] at ih; exact ih s57 (hSc.trans hs57)) | (have e2 := h60; rw [if_neg (fun z => e2 z.2)] at ih; exact ih s57 (hSc.trans hs57)) | (rw [if_neg (fun z => h51 z.1)] at ih; exact ih S hSc) | fail
          · refine z_iconst eX12_shower_63 ?_
            refine z_il4 eX12_shower_64 ?_
            refine z_ishl eX12_shower_66 ?_
            refine z_goto eX12_shower_67 (tgt := 71) rfl ?_
            refine z_ior eX12_shower_71 ?_
            refine z_is3 eX12_shower_72 (Nat.ne_of_beq_eq_false rfl) ?_
            refine z_ii4 eX12_shower_73 (Nat.ne_of_beq_eq_false rfl) ?_
            refine z_goto eX12_shower_76 (tgt := 33) rfl ?_
            first | (rw [if_pos ⟨h51, h60⟩] at ih; exact ih s57 (hSc.trans hs57)) | (have e2 := h60; rw [if_neg (fun z => e2 z.2)] at ih; exact ih s57 (hSc.trans hs57)) | (rw [if_neg (fun z => h51 z.1)] at ih; exact ih S hSc) | fail
    refine z_al0 eX12_shower_0 hR.ne ?_
    refine z_il1 eX12_shower_1 ?_
    refine z_iconst eX12_shower_2 ?_
    refine z_bipush eX12_shower_3 (by decide) ?_
    refine z_S3 eX12_shower_5 vX12_51 rfl rfl (Nat.le_of_ble_eq_true rfl) (Nat.le_of_ble_eq_true rfl) (m_X12_isIn (by refine ⟨?_, ?_, ?_⟩ <;> first | omega | decide | assumption)) ?_
    refine z_ifb_ne (tgt := 15) eX12_shower_8 rfl (fun h8 => ?_) (fun h8 => absurd hok h8)
    refine z_iconst eX12_shower_15 ?_
    refine z_rp (j := 0) lX12_48 eX12_shower_16 rfl hR rfl rfl ?_
    refine z_al0 eX12_shower_19 hR.ne ?_
    refine z_rg (j := 0) lX12_48 eX12_shower_20 rfl hR rfl rfl ?_
    rw [zset_eq]
    refine z_if_le (tgt := 28) eX12_shower_23 rfl ⟨by omega, by omega⟩ (fun h23 => ?_) (fun h23 => (by exfalso; omega))
    refine z_iconst eX12_shower_28 ?_
    refine z_is3 eX12_shower_29 (Nat.ne_of_beq_eq_false rfl) ?_
    refine z_iconst eX12_shower_30 ?_
    refine z_is4 eX12_shower_31 (Nat.ne_of_beq_eq_false rfl) ?_
    exact w33 0 (by decide) hm4.1 _ (zScr.refl (hJ1 _))
  · rw [if_neg hok, if_neg hok]
    refine z_al0 eX12_shower_0 hR.ne ?_
    refine z_il1 eX12_shower_1 ?_
    refine z_iconst eX12_shower_2 ?_
    refine z_bipush eX12_shower_3 (by decide) ?_
    refine z_S3 eX12_shower_5 vX12_51 rfl rfl (Nat.le_of_ble_eq_true rfl) (Nat.le_of_ble_eq_true rfl) (m_X12_isIn (by refine ⟨?_, ?_, ?_⟩ <;> first | omega | decide | assumption)) ?_
    refine z_ifb_ne (tgt := 15) eX12_shower_8 rfl (fun h8 => absurd h8 hok) (fun h8 => ?_)
    refine z_iconst eX12_shower_11 ?_
    refine z_goto eX12_shower_12 (tgt := 16) rfl ?_
    refine z_rp (j := 0) lX12_48 eX12_shower_16 rfl hR rfl rfl ?_
    refine z_al0 eX12_shower_19 hR.ne ?_
    refine z_rg (j := 0) lX12_48 eX12_shower_20 rfl hR rfl rfl ?_
    rw [zset_eq]
    refine z_if_le (tgt := 28) eX12_shower_23 rfl ⟨by omega, by omega⟩ (fun h23 => (by exfalso; omega)) (fun h23 => ?_)
    refine z_iconst eX12_shower_26 ?_
    refine z_ireturn eX12_shower_27 rfl ?_
    exact zXe (zScr.refl (hJ1 _)) rfl
/-- whether a comes ahead of b -/
def qHastier (M : Int → Int) (a b : Int) : Prop := 0 < M (74 + 5 * a + 2) * M (74 + 5 * b + 1) - M (74 + 5 * b + 2) * M (74 + 5 * a + 1) ∨ M (74 + 5 * a + 2) * M (74 + 5 * b + 1) - M (74 + 5 * b + 2) * M (74 + 5 * a + 1) = 0 ∧ a < b
theorem zmul_bd {a b m n : Int} (ha : 0 ≤ a ∧ a ≤ m) (hb : 0 ≤ b ∧ b ≤ n) : 0 ≤ a * b ∧ a * b ≤ m * n := ⟨Int.mul_nonneg ha.1 hb.1, Int.mul_le_mul ha.2 hb.2 hb.1 (by omega)⟩
theorem m_X12_isHastier {G : zG} {lay : zLay} {σ C0 : zMem} {nx x : Int} {a c : Int} (hR : RefL lay x) (ha : 0 ≤ a ∧ a < 8) (hc : 0 ≤ c ∧ c < 8) (hM : zInv (σ 1)) : zMM G 2 KX12_isHastier [zP x, zI a, zI c] lay (rC x σ C0) nx (0, 0) (zR (some (zI (zbi (qHastier (σ 1) a c)))) lay (rC x (σ) C0) nx) := by
  refine z_met' (L := [zP x, zI a, zI c, zU]) gX12_isHastier.1 rfl rfl (Nat.le_of_ble_eq_true rfl) rfl ?_
  have hA := hM.V ha
  have hC := hM.V hc
  have b1 := zmul_bd hA.2.2.1 hC.2.1
  have b2 := zmul_bd hC.2.2.1 hA.2.1
  refine z_al0 eX12_isHastier_0 hR.ne ?_
  refine z_il1 eX12_isHastier_1 ?_
  refine z_iconst eX12_isHastier_2 ?_
  refine z_V2 eX12_isHastier_3 vX12_55 rfl rfl (Nat.le_of_ble_eq_true rfl) (Nat.le_of_ble_eq_true rfl) hR.x (m_X12_ofMotion hR ⟨by omega, by omega⟩ (by decide)) ?_
  refine z_al0 eX12_isHastier_6 hR.ne ?_
  refine z_il2 eX12_isHastier_7 ?_
  refine z_iconst eX12_isHastier_8 ?_
  refine z_V2 eX12_isHastier_9 vX12_55 rfl rfl (Nat.le_of_ble_eq_true rfl) (Nat.le_of_ble_eq_true rfl) hR.x (m_X12_ofMotion hR ⟨by omega, by omega⟩ (by decide)) ?_
  refine z_imul eX12_isHastier_12 ?_
  refine z_al0 eX12_isHastier_13 hR.ne ?_
  refine z_il2 eX12_isHastier_14 ?_
  refine z_iconst eX12_isHastier_15 ?_
  refine z_V2 eX12_isHastier_16 vX12_55 rfl rfl (Nat.le_of_ble_eq_true rfl) (Nat.le_of_ble_eq_true rfl) hR.x (m_X12_ofMotion hR ⟨by omega, by omega⟩ (by decide)) ?_
  refine z_al0 eX12_isHastier_19 hR.ne ?_
  refine z_il1 eX12_isHastier_20 ?_
  refine z_iconst eX12_isHastier_21 ?_
  refine z_V2 eX12_isHastier_22 vX12_55 rfl rfl (Nat.le_of_ble_eq_true rfl) (Nat.le_of_ble_eq_true rfl) hR.x (m_X12_ofMotion hR ⟨by omega, by omega⟩ (by decide)) ?_
  refine z_imul eX12_isHastier_25 ?_
  refine z_isub eX12_isHastier_26 ?_
  refine z_is3 eX12_isHastier_27 (Nat.ne_of_beq_eq_false rfl) ?_
  refine z_il3 eX12_isHastier_28 ?_
  refine z_if_gt (tgt := 41) eX12_isHastier_29 rfl ⟨by omega, by omega⟩ (fun h29 => ?_) (fun h29 => ?_)
  · refine z_iconst eX12_isHastier_41 ?_
    refine z_goto eX12_isHastier_42 (tgt := 46) rfl ?_
    refine z_zreturn eX12_isHastier_46 rfl (by first | exact Or.inl rfl | exact Or.inr rfl | exact zbi_01 _ | assumption | omega) ?_
    first | exact zRb1 (by unfold qHastier; omega) | exact zRb0 (by unfold qHastier; omega)
  · refine z_il3 eX12_isHastier_32 ?_
    refine z_if_ne (tgt := 45) eX12_isHastier_33 rfl ⟨by omega, by omega⟩ (fun h33 => ?_) (fun h33 => ?_)
    · refine z_iconst eX12_isHastier_45 ?_
      refine z_zreturn eX12_isHastier_46 rfl (by first | exact Or.inl rfl | exact Or.inr rfl | exact zbi_01 _ | assumption | omega) ?_
      first | exact zRb1 (by unfold qHastier; omega) | exact zRb0 (by unfold qHastier; omega)
    · refine z_il1 eX12_isHastier_36 ?_
      refine z_il2 eX12_isHastier_37 ?_
      refine z_icmp_ge (tgt := 45) eX12_isHastier_38 rfl ⟨⟨by omega, by omega⟩, ⟨by omega, by omega⟩⟩ (fun h38 => ?_) (fun h38 => ?_)
      · refine z_iconst eX12_isHastier_45 ?_
        refine z_zreturn eX12_isHastier_46 rfl (by first | exact Or.inl rfl | exact Or.inr rfl | exact zbi_01 _ | assumption | omega) ?_
        first | exact zRb1 (by unfold qHastier; omega) | exact zRb0 (by unfold qHastier; omega)
      · refine z_iconst eX12_isHastier_41 ?_
        refine z_goto eX12_isHastier_42 (tgt := 46) rfl ?_
        refine z_zreturn eX12_isHastier_46 rfl (by first | exact Or.inl rfl | exact Or.inr rfl | exact zbi_01 _ | assumption | omega) ?_
        first | exact zRb1 (by unfold qHastier; omega) | exact zRb0 (by unfold qHastier; omega)
noncomputable def qAhead (M : Int → Int) (a n : Int) : Int := zsum (fun b => zbi (b ≠ a ∧ M (74 + 5 * b + 4) = 0 ∧ qHastier M b a)) n
theorem m_X12_haste {G : zG} {lay : zLay} {σ C0 : zMem} {nx x : Int} {k : Int} (hR : RefL lay x) (hM : zOK (σ 1)) (hk : zin k) : zMM G 3 KX12_haste [zP x, zI k] lay (rC x σ C0) nx (0, 0) (zR (some (zI (qFrom (fun a => σ 1 (74 + 5 * a + 4) = 0 ∧ qAhead (σ 1) a (σ 1 4) = k) 0 (σ 1 4)))) lay (rC x (zset σ 0 0 0) C0) nx) := by
  refine z_met' (L := [zP x, zI k, zU, zU, zU]) gX12_haste.1 rfl rfl (Nat.le_of_ble_eq_true rfl) rfl ?_
  obtain ⟨k1, k2⟩ := hk
  have hm4 := hM.1.m4
  generalize hS : zset σ 0 0 0 = S
  have hS1 : S 1 = σ 1 := by rw [← hS]; exact zset_001
  have w7 : ∀ (m : Nat) (a : Int) (y3 y4 : zAV), y3.1 ≠ 1 → a + m = σ 1 4 → 0 ≤ a → zW G KX12_haste 3 (zR (some (zI (qFrom (fun a => σ 1 (74 + 5 * a + 4) = 0 ∧ qAhead (σ 1) a (σ 1 4) = k) a (σ 1 4)))) lay (rC x S C0) nx) 7 [zP x, zI k, zI a, y3, y4] [] lay (rC x S C0) nx (0, 0) := by
    intro m
    induction m with
    | zero =>
      intro a y3 y4 hy ha a0
      rw [qFrom_ge (by omega)]
      refine z_il2 eX12_haste_7 ?_
      refine z_al0 eX12_haste_8 hR.ne ?_
      refine z_ra lX12_7 eX12_haste_9 rfl hR rfl ?_
      try rw [hS1]
      refine z_iconst eX12_haste_12 ?_
      refine z_rl eX12_haste_13 hR (by decide) rfl rfl ⟨by omega, by omega⟩ ?_
      try rw [hS1]
      refine z_icmp_ge (tgt := 93) eX12_haste_14 rfl ⟨⟨by omega, by omega⟩, ⟨by omega, by omega⟩⟩ (fun h14 => ?_) (fun h14 => (by exfalso; omega))
      refine z_iconst eX12_haste_93 ?_
      refine z_ireturn eX12_haste_94 rfl ?_
      first | exact ⟨rfl, rfl, rfl, rfl⟩ | exact zRb1 (by omega) | exact zRb0 (by omega) | exact zRe (by omega)
    | succ m ih =>
      intro a y3 y4 hy ha a0
      rw [qFrom_s (by omega)]
      have hA := hM.1.V (k := a) ⟨a0, by omega⟩
      have w22 : ∀ t : Int, 0 ≤ t → t ≤ σ 1 4 → zW G KX12_haste 3 (zR (some (zI (zif (σ 1 (74 + 5 * a + 4) = 0 ∧ qAhead (σ 1) a (σ 1 4) = k) a (qFrom (fun a => σ 1 (74 + 5 * a + 4) = 0 ∧ qAhead (σ 1) a (σ 1 4) = k) (a + 1) (σ 1 4))))) lay (rC x S C0) nx) 22 [zP x, zI k, zI a, zI (qAhead (σ 1) a t), zI t] [] lay (rC x S C0) nx (0, 0) := by
        refine z_up (σ 1 4) ?_ ?_
        · have hb : 0 ≤ qAhead (σ 1) a (σ 1 4) ∧ qAhead (σ 1) a (σ 1 4) ≤ 1 * σ 1 4 := zsum_bnd hm4.1 (fun t _ _ => by have := zbi_01 (t ≠ a ∧ σ 1 (74 + 5 * t + 4) = 0 ∧ qHastier (σ 1) t a); omega)
          refine z_il4 eX12_haste_22 ?_
          refine z_al0 eX12_haste_24 hR.ne ?_
          refine z_ra lX12_7 eX12_haste_25 rfl hR rfl ?_
          try rw [hS1]
          refine z_iconst eX12_haste_28 ?_
          refine z_rl eX12_haste_29 hR (by decide) rfl rfl ⟨by omega, by omega⟩ ?_
          try rw [hS1]
          refine z_icmp_ge (tgt := 72) eX12_haste_30 rfl ⟨⟨by omega, by omega⟩, ⟨by omega, by omega⟩⟩ (fun h30 => ?_) (fun h30 => (by exfalso; omega))
          refine z_al0 eX12_haste_72 hR.ne ?_
          refine z_il2 eX12_haste_73 ?_
          refine z_V1 eX12_haste_74 vX12_308 rfl rfl (Nat.le_of_ble_eq_true rfl) (Nat.le_of_ble_eq_true rfl) hR.x (m_X12_waits hR ⟨by omega, by omega⟩ (by rw [hS1]; exact ⟨by omega, by omega⟩)) ?_
          try rw [hS1]
          refine z_ifb_eq (tgt := 87) eX12_haste_77 rfl (fun h77 => ?_) (fun h77 => ?_)
          · refine z_ii2 eX12_haste_87 (Nat.ne_of_beq_eq_false rfl) ?_
            refine z_goto eX12_haste_90 (tgt := 7) rfl ?_
            rw [zif_f (by omega)]; exact ih (a + 1) _ _ (Nat.ne_of_beq_eq_false rfl) (by omega) (by omega)
          · refine z_il3 eX12_haste_80 ?_
            refine z_il1 eX12_haste_81 ?_
            refine z_icmp_ne (tgt := 87) eX12_haste_82 rfl ⟨⟨by omega, by omega⟩, ⟨by omega, by omega⟩⟩ (fun h82 => ?_) (fun h82 => ?_)
            · refine z_ii2 eX12_haste_87 (Nat.ne_of_beq_eq_false rfl) ?_
              refine z_goto eX12_haste_90 (tgt := 7) rfl ?_
              rw [zif_f (by omega)]; exact ih (a + 1) _ _ (Nat.ne_of_beq_eq_false rfl) (by omega) (by omega)
            · refine z_il2 eX12_haste_85 ?_
              refine z_ireturn eX12_haste_86 rfl ?_
              rw [zif_t ⟨by omega, by omega⟩]; exact ⟨rfl, rfl, rfl, rfl⟩
        · intro t t0 t1 ih2
          have hV := hM.1.V (k := t) ⟨t0, by omega⟩
          have e : qAhead (σ 1) a (t + 1) = qAhead (σ 1) a t + zbi (t ≠ a ∧ σ 1 (74 + 5 * t + 4) = 0 ∧ qHastier (σ 1) t a) := zsum_s _ t0
          rw [e] at ih2
          refine z_il4 eX12_haste_22 ?_
          refine z_al0 eX12_haste_24 hR.ne ?_
          refine z_ra lX12_7 eX12_haste_25 rfl hR rfl ?_
          try rw [hS1]
          refine z_iconst eX12_haste_28 ?_
          refine z_rl eX12_haste_29 hR (by decide) rfl rfl ⟨by omega, by omega⟩ ?_
          try rw [hS1]
          refine z_icmp_ge (tgt := 72) eX12_haste_30 rfl ⟨⟨by omega, by omega⟩, ⟨by omega, by omega⟩⟩ (fun h30 => (by exfalso; omega)) (fun h30 => ?_)
          refine z_il3 eX12_haste_33 ?_
          refine z_il4 eX12_haste_34 ?_
          refine z_il2 eX12_haste_36 ?_
          refine z_icmp_eq (tgt := 63) eX12_haste_37 rfl ⟨⟨by omega, by omega⟩, ⟨by omega, by omega⟩⟩ (fun h37 => ?_) (fun h37 => ?_)
          · refine z_iconst eX12_haste_63 ?_
            refine z_iadd eX12_haste_64 ?_
            refine z_is3 eX12_haste_65 (Nat.ne_of_beq_eq_false rfl) ?_
            refine z_ii4 eX12_haste_66 (Nat.ne_of_beq_eq_false rfl) ?_
            refine z_goto eX12_haste_69 (tgt := 22) rfl ?_
            first | (have e2 := h56; have e3 := h37; rw [zbi_t ⟨e3, h46, e2⟩] at ih2; exact ih2) | (have e2 := h56; rw [zbi_f (fun z => e2 z.2.2)] at ih2; exact ih2) | (have e2 := h46; rw [zbi_f (fun z => e2 z.2.1)] at ih2; exact ih2) | (rw [zbi_f (fun z => z.1 h37)] at ih2; exact ih2) | fail
          · refine z_al0 eX12_haste_40 hR.ne ?_
            refine z_il4 eX12_haste_41 ?_
            refine z_V1 eX12_haste_43 vX12_308 rfl rfl (Nat.le_of_ble_eq_true rfl) (Nat.le_of_ble_eq_true rfl) hR.x (m_X12_waits hR ⟨by omega, by omega⟩ (by rw [hS1]; exact ⟨by omega, by omega⟩)) ?_
            try rw [hS1]
            refine z_ifb_eq (tgt := 63) eX12_haste_46 rfl (fun h46 => ?_) (fun h46 => ?_)
            · refine z_iconst eX12_haste_63 ?_
              refine z_iadd eX12_haste_64 ?_
              refine z_is3 eX12_haste_65 (Nat.ne_of_beq_eq_false rfl) ?_
              refine z_ii4 eX12_haste_66 (Nat.ne_of_beq_eq_false rfl) ?_
              refine z_goto eX12_haste_69 (tgt := 22) rfl ?_
              first | (have e2 := h56; have e3 := h37; rw [zbi_t ⟨e3, h46, e2⟩] at ih2; exact ih2) | (have e2 := h56; rw [zbi_f (fun z => e2 z.2.2)] at ih2; exact ih2) | (have e2 := h46; rw [zbi_f (fun z => e2 z.2.1)] at ih2; exact ih2) | (rw [zbi_f (fun z => z.1 h37)] at ih2; exact ih2) | fail
            · refine z_al0 eX12_haste_49 hR.ne ?_
              refine z_il4 eX12_haste_50 ?_
              refine z_il2 eX12_haste_52 ?_
              refine z_V2 eX12_haste_53 vX12_373 rfl rfl (Nat.le_of_ble_eq_true rfl) (Nat.le_of_ble_eq_true rfl) hR.x (m_X12_isHastier hR ⟨by omega, by omega⟩ ⟨by omega, by omega⟩ (by rw [hS1]; exact hM.1)) ?_
              try rw [hS1]
              refine z_ifb_eq (tgt := 63) eX12_haste_56 rfl (fun h56 => ?_) (fun h56 => ?_)
              · refine z_iconst eX12_haste_63 ?_
                refine z_iadd eX12_haste_64 ?_
                refine z_is3 eX12_haste_65 (Nat.ne_of_beq_eq_false rfl) ?_
                refine z_ii4 eX12_haste_66 (Nat.ne_of_beq_eq_false rfl) ?_
                refine z_goto eX12_haste_69 (tgt := 22) rfl ?_
                first | (have e2 := h56; have e3 := h37; rw [zbi_t ⟨e3, h46, e2⟩] at ih2; exact ih2) | (have e2 := h56; rw [zbi_f (fun z => e2 z.2.2)] at ih2; exact ih2) | (have e2 := h46; rw [zbi_f (fun z => e2 z.2.1)] at ih2; exact ih2) | (rw [zbi_f (fun z => z.1 h37)] at ih2; exact ih2) | fail
              · refine z_iconst eX12_haste_59 ?_
                refine z_goto eX12_haste_60 (tgt := 64) rfl ?_
                refine z_iadd eX12_haste_64 ?_
                refine z_is3 eX12_haste_65 (Nat.ne_of_beq_eq_false rfl) ?_
                refine z_ii4 eX12_haste_66 (Nat.ne_of_beq_eq_false rfl) ?_
                refine z_goto eX12_haste_69 (tgt := 22) rfl ?_
                first | (have e2 := h56; have e3 := h37; rw [zbi_t ⟨e3, h46, e2⟩] at ih2; exact ih2) | (have e2 := h56; rw [zbi_f (fun z => e2 z.2.2)] at ih2; exact ih2) | (have e2 := h46; rw [zbi_f (fun z => e2 z.2.1)] at ih2; exact ih2) | (rw [zbi_f (fun z => z.1 h37)] at ih2; exact ih2) | fail
      refine z_il2 eX12_haste_7 ?_
      refine z_al0 eX12_haste_8 hR.ne ?_
      refine z_ra lX12_7 eX12_haste_9 rfl hR rfl ?_
      try rw [hS1]
      refine z_iconst eX12_haste_12 ?_
      refine z_rl eX12_haste_13 hR (by decide) rfl rfl ⟨by omega, by omega⟩ ?_
      try rw [hS1]
      refine z_icmp_ge (tgt := 93) eX12_haste_14 rfl ⟨⟨by omega, by omega⟩, ⟨by omega, by omega⟩⟩ (fun h14 => (by exfalso; omega)) (fun h14 => ?_)
      refine z_iconst eX12_haste_17 ?_
      refine z_is3 eX12_haste_18 (Nat.ne_of_beq_eq_false rfl) ?_
      refine z_iconst eX12_haste_19 ?_
      refine z_is4 eX12_haste_20 (Nat.ne_of_beq_eq_false rfl) ?_
      exact w22 0 (by decide) hm4.1
  refine z_al0 eX12_haste_0 hR.ne ?_
  refine z_iconst eX12_haste_1 ?_
  refine z_rp (j := 0) lX12_48 eX12_haste_2 rfl hR rfl rfl ?_
  rw [hS]
  refine z_iconst eX12_haste_5 ?_
  refine z_is2 eX12_haste_6 (Nat.ne_of_beq_eq_false rfl) ?_
  exact w7 (σ 1 4).toNat 0 _ _ (Nat.ne_of_beq_eq_false rfl) (by omega) (by decide)
theorem m_X12_isWet {G : zG} {lay : zLay} {σ C0 : zMem} {nx x : Int} {p s : Int} (hR : RefL lay x) (hS : TxS lay C0) (hJ : zJs σ) (hM : zOL (σ 1)) (hp : 0 ≤ p ∧ p < 7) (hs : 0 ≤ s ∧ s < 5) : zMM G 67 KX12_isWet [zP x, zI p, zI s] lay (rC x σ C0) nx (0, 0) (zX' (some (zI (zbi (0 < qFelt (σ 1) p s (-1) (σ 1 6))))) (zScr σ) lay C0 nx x) := by
  refine z_met' (L := [zP x, zI p, zI s]) gX12_isWet.1 rfl rfl (Nat.le_of_ble_eq_true rfl) rfl ?_
  have h6 := hM.1.1.s 6 rfl (by omega)
  have hb := qFelt_bd (σ 1) p s (-1) (σ 1 6)
  refine z_al0 eX12_isWet_0 hR.ne ?_
  refine z_il1 eX12_isWet_1 ?_
  refine z_il2 eX12_isWet_2 ?_
  refine z_iconst eX12_isWet_3 ?_
  refine z_al0 eX12_isWet_4 hR.ne ?_
  refine z_ra lX12_7 eX12_isWet_5 rfl hR rfl ?_
  refine z_bipush eX12_isWet_8 (by decide) ?_
  refine z_rl eX12_isWet_10 hR (by decide) rfl rfl ⟨by omega, by omega⟩ ?_
  refine z_V4x eX12_isWet_11 vX12_286 rfl rfl (Nat.le_of_ble_eq_true rfl) (Nat.le_of_ble_eq_true rfl) hR.x (m_X12_feltBy hR hS hJ hM ⟨by omega, by omega⟩ ⟨by omega, by omega⟩ ⟨by omega, by omega⟩ ⟨by omega, by omega⟩) (fun s11 hs11 => ?_)
  refine z_if_le (tgt := 21) eX12_isWet_14 rfl ⟨by omega, by omega⟩ (fun h14 => ?_) (fun h14 => ?_)
  · refine z_iconst eX12_isWet_21 ?_
    refine z_zreturn eX12_isWet_22 rfl (by first | exact Or.inl rfl | exact Or.inr rfl | exact zbi_01 _ | assumption | omega) ?_
    first | exact zXe hs11 (by rw [zbi_t (by omega)]) | exact zXe hs11 (by rw [zbi_f (by omega)])
  · refine z_iconst eX12_isWet_17 ?_
    refine z_goto eX12_isWet_18 (tgt := 22) rfl ?_
    refine z_zreturn eX12_isWet_22 rfl (by first | exact Or.inl rfl | exact Or.inr rfl | exact zbi_01 _ | assumption | omega) ?_
    first | exact zXe hs11 (by rw [zbi_t (by omega)]) | exact zXe hs11 (by rw [zbi_f (by omega)])
