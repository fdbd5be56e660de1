/-! Counts; sets and the like. -/
def qCountC (M : Int → Int) (r w : Int) : Int := if w = 0 then M 3 else if w = 1 then M 4 else if w = 2 then M 0 else if w = 3 then M 1 else if 4 ≤ w ∧ w ≤ 9 then M (5 + w - 4) else if 10 ≤ w ∧ w ≤ 11 then qInSt M (w - 10) else if w = 12 then qOuts M else if w = 13 then M 11 else if w = 14 then r else -1
theorem c_X11_count {G : zG} {lay : zLay} {σ C0 : zMem} {nx x : Int} (hT : TopL lay x) {w : Int} {M : Int → Int} (hR : CoR lay x C0 σ (0 + 2) M) (hM : zOC M) (hw : zin w) : zMM G 2 KX11_count [zP (x + 0), zI w] lay (tC x σ C0) nx (0, 0) (zR (some (zI (qCountC M (σ 0 9) w))) lay (tC x (σ) (C0)) nx) := by
  refine z_met' (L := [zP (x + 0), zI w]) gX11_count.1 rfl rfl (Nat.le_of_ble_eq_true rfl) rfl ?_
  have hA := TpAt
  have hx := hT.1
  have hne : x + 0 ≠ -1 := by omega
  have hD := isCo.now
  obtain ⟨w1, w2⟩ := hw
  have hN := hR.1
  have hI := hM.I
  have w103 : w = 3 → zW G KX11_count 2 (zR (some (zI (qCountC M (σ 0 9) w))) lay (tC x σ C0) nx) 103 [zP (x + 0), zI w] [] lay (tC x σ C0) nx (0, 0) := by
    intro h3
    have e3 : qCountC M (σ 0 9) w = M 1 := by rw [h3]; rfl
    rw [e3]
    rcases hR.2 with ⟨q1, q2⟩ | ⟨q1, n, q2⟩
    · skip
      refine z_al0 eX11_count_103 hne ?_
      first | refine z_ta0 lX11_20 eX11_count_104 rfl hT hA (by decide) rfl rfl ?_ | refine z_ta lX11_20 eX11_count_104 rfl hT hA ⟨by decide, by decide⟩ rfl rfl ?_
      first | refine z_td0 (j := 10) lX11_123 eX11_count_107 rfl hT hD (by decide) rfl rfl rfl ?_ | refine z_td (j := 10) lX11_123 eX11_count_107 rfl hT hD ⟨by decide, by decide⟩ rfl rfl rfl ?_
      rw [q2]
      refine z_ifnonnull (tgt := 117) eX11_count_110 rfl (fun h110 => (by exfalso; omega)) (fun h110 => ?_)
      refine z_iconst eX11_count_113 ?_
      refine z_goto eX11_count_114 (tgt := 127) rfl ?_
      refine z_ireturn eX11_count_127 rfl ?_
      rw [q1]; exact ⟨rfl, rfl, rfl, rfl⟩
    · have hL := q2.A
      have hF := q2.F
      have hp0 := hL.p0
      refine z_al0 eX11_count_103 hne ?_
      first | refine z_ta0 lX11_20 eX11_count_104 rfl hT hA (by decide) rfl rfl ?_ | refine z_ta lX11_20 eX11_count_104 rfl hT hA ⟨by decide, by decide⟩ rfl rfl ?_
      first | refine z_td0 (j := 10) lX11_123 eX11_count_107 rfl hT hD (by decide) rfl rfl rfl ?_ | refine z_td (j := 10) lX11_123 eX11_count_107 rfl hT hD ⟨by decide, by decide⟩ rfl rfl rfl ?_
      refine z_ifnonnull (tgt := 117) eX11_count_110 rfl (fun h110 => ?_) (fun h110 => (by exfalso; omega))
      refine z_al0 eX11_count_117 hne ?_
      first | refine z_ta0 lX11_20 eX11_count_118 rfl hT hA (by decide) rfl rfl ?_ | refine z_ta lX11_20 eX11_count_118 rfl hT hA ⟨by decide, by decide⟩ rfl rfl ?_
      first | refine z_td0 (j := 10) lX11_123 eX11_count_121 rfl hT hD (by decide) rfl rfl rfl ?_ | refine z_td (j := 10) lX11_123 eX11_count_121 rfl hT hD ⟨by decide, by decide⟩ rfl rfl rfl ?_
      refine z_og (j := 0) lX11_126 eX11_count_124 rfl hL.n0 hL.l0 rfl ?_
      refine z_ireturn eX11_count_127 rfl ?_
      rw [q2.n1]; exact ⟨rfl, rfl, rfl, rfl⟩
  refine z_il1 eX11_count_0 ?_
  by_cases h1_0 : w = 0
  · refine z_tsIn (off := 75) (tgt := 76) eX11_count_1 ⟨by omega, by omega⟩ ⟨by omega, by omega⟩ (by rw [h1_0]; rfl) rfl ?_
    refine z_al0 eX11_count_76 hne ?_
    first | refine z_ta0 lX11_20 eX11_count_77 rfl hT hA (by decide) rfl rfl ?_ | refine z_ta lX11_20 eX11_count_77 rfl hT hA ⟨by decide, by decide⟩ rfl rfl ?_
    first | refine z_tg0 (j := 1) lX11_321 eX11_count_80 rfl hT hD (by decide) rfl rfl rfl ?_ | refine z_tg (j := 1) lX11_321 eX11_count_80 rfl hT hD ⟨by decide, by decide⟩ rfl rfl rfl ?_
    rw [hN.n3]
    refine z_ireturn eX11_count_83 rfl ?_
    rw [h1_0]; exact ⟨rfl, rfl, rfl, rfl⟩
  by_cases h1_1 : w = 1
  · refine z_tsIn (off := 83) (tgt := 84) eX11_count_1 ⟨by omega, by omega⟩ ⟨by omega, by omega⟩ (by rw [h1_1]; rfl) rfl ?_
    refine z_al0 eX11_count_84 hne ?_
    first | refine z_ta0 lX11_20 eX11_count_85 rfl hT hA (by decide) rfl rfl ?_ | refine z_ta lX11_20 eX11_count_85 rfl hT hA ⟨by decide, by decide⟩ rfl rfl ?_
    first | refine z_ta0 lX11_154 eX11_count_88 rfl hT hD (by decide) rfl rfl ?_ | refine z_ta lX11_154 eX11_count_88 rfl hT hD ⟨by decide, by decide⟩ rfl rfl ?_
    first | refine z_tg0 (j := 0) lX11_294 eX11_count_91 rfl hT hD.mo (by decide) rfl rfl rfl ?_ | refine z_tg (j := 0) lX11_294 eX11_count_91 rfl hT hD.mo ⟨by decide, by decide⟩ rfl rfl rfl ?_
    rw [hN.mo.1]
    refine z_ireturn eX11_count_94 rfl ?_
    rw [h1_1]; exact ⟨rfl, rfl, rfl, rfl⟩
  by_cases h1_2 : w = 2
  · refine z_tsIn (off := 94) (tgt := 95) eX11_count_1 ⟨by omega, by omega⟩ ⟨by omega, by omega⟩ (by rw [h1_2]; rfl) rfl ?_
    refine z_al0 eX11_count_95 hne ?_
    first | refine z_ta0 lX11_20 eX11_count_96 rfl hT hA (by decide) rfl rfl ?_ | refine z_ta lX11_20 eX11_count_96 rfl hT hA ⟨by decide, by decide⟩ rfl rfl ?_
    first | refine z_tg0 (j := 0) lX11_96 eX11_count_99 rfl hT hD (by decide) rfl rfl rfl ?_ | refine z_tg (j := 0) lX11_96 eX11_count_99 rfl hT hD ⟨by decide, by decide⟩ rfl rfl rfl ?_
    rw [hN.n0]
    refine z_ireturn eX11_count_102 rfl ?_
    rw [h1_2]; exact ⟨rfl, rfl, rfl, rfl⟩
  by_cases h1_3 : w = 3
  · refine z_tsIn (off := 102) (tgt := 103) eX11_count_1 ⟨by omega, by omega⟩ ⟨by omega, by omega⟩ (by rw [h1_3]; rfl) rfl ?_
    exact w103 h1_3
  by_cases h1_4 : w = 4
  · refine z_tsIn (off := 127) (tgt := 128) eX11_count_1 ⟨by omega, by omega⟩ ⟨by omega, by omega⟩ (by rw [h1_4]; rfl) rfl ?_
    refine z_al0 eX11_count_128 hne ?_
    first | refine z_ta0 lX11_20 eX11_count_129 rfl hT hA (by decide) rfl rfl ?_ | refine z_ta lX11_20 eX11_count_129 rfl hT hA ⟨by decide, by decide⟩ rfl rfl ?_
    first | refine z_ta0 lX11_194 eX11_count_132 rfl hT hD (by decide) rfl rfl ?_ | refine z_ta lX11_194 eX11_count_132 rfl hT hD ⟨by decide, by decide⟩ rfl rfl ?_
    first | refine z_tg0 (j := 0) lX11_399 eX11_count_135 rfl hT hD.we (by decide) rfl rfl rfl ?_ | refine z_tg (j := 0) lX11_399 eX11_count_135 rfl hT hD.we ⟨by decide, by decide⟩ rfl rfl rfl ?_
    rw [hN.we.1.1]
    refine z_ireturn eX11_count_138 rfl ?_
    rw [h1_4]; exact ⟨rfl, rfl, rfl, rfl⟩
  by_cases h1_5 : w = 5
  · refine z_tsIn (off := 138) (tgt := 139) eX11_count_1 ⟨by omega, by omega⟩ ⟨by omega, by omega⟩ (by rw [h1_5]; rfl) rfl ?_
    refine z_al0 eX11_count_139 hne ?_
    first | refine z_ta0 lX11_20 eX11_count_140 rfl hT hA (by decide) rfl rfl ?_ | refine z_ta lX11_20 eX11_count_140 rfl hT hA ⟨by decide, by decide⟩ rfl rfl ?_
    first | refine z_ta0 lX11_194 eX11_count_143 rfl hT hD (by decide) rfl rfl ?_ | refine z_ta lX11_194 eX11_count_143 rfl hT hD ⟨by decide, by decide⟩ rfl rfl ?_
    first | refine z_tg0 (j := 1) lX11_215 eX11_count_146 rfl hT hD.we (by decide) rfl rfl rfl ?_ | refine z_tg (j := 1) lX11_215 eX11_count_146 rfl hT hD.we ⟨by decide, by decide⟩ rfl rfl rfl ?_
    rw [hN.we.1.2.1]
    refine z_ireturn eX11_count_149 rfl ?_
    rw [h1_5]; exact ⟨rfl, rfl, rfl, rfl⟩
  by_cases h1_6 : w = 6
  · refine z_tsIn (off := 149) (tgt := 150) eX11_count_1 ⟨by omega, by omega⟩ ⟨by omega, by omega⟩ (by rw [h1_6]; rfl) rfl ?_
    refine z_al0 eX11_count_150 hne ?_
    first | refine z_ta0 lX11_20 eX11_count_151 rfl hT hA (by decide) rfl rfl ?_ | refine z_ta lX11_20 eX11_count_151 rfl hT hA ⟨by decide, by decide⟩ rfl rfl ?_
    first | refine z_ta0 lX11_194 eX11_count_154 rfl hT hD (by decide) rfl rfl ?_ | refine z_ta lX11_194 eX11_count_154 rfl hT hD ⟨by decide, by decide⟩ rfl rfl ?_
    first | refine z_tg0 (j := 2) lX11_435 eX11_count_157 rfl hT hD.we (by decide) rfl rfl rfl ?_ | refine z_tg (j := 2) lX11_435 eX11_count_157 rfl hT hD.we ⟨by decide, by decide⟩ rfl rfl rfl ?_
    rw [hN.we.1.2.2.1]
    refine z_ireturn eX11_count_160 rfl ?_
    rw [h1_6]; exact ⟨rfl, rfl, rfl, rfl⟩
  by_cases h1_7 : w = 7
  · refine z_tsIn (off := 160) (tgt := 161) eX11_count_1 ⟨by omega, by omega⟩ ⟨by omega, by omega⟩ (by rw [h1_7]; rfl) rfl ?_
    refine z_al0 eX11_count_161 hne ?_
    first | refine z_ta0 lX11_20 eX11_count_162 rfl hT hA (by decide) rfl rfl ?_ | refine z_ta lX11_20 eX11_count_162 rfl hT hA ⟨by decide, by decide⟩ rfl rfl ?_
    first | refine z_tg0 (j := 7) lX11_371 eX11_count_165 rfl hT hD (by decide) rfl rfl rfl ?_ | refine z_tg (j := 7) lX11_371 eX11_count_165 rfl hT hD ⟨by decide, by decide⟩ rfl rfl rfl ?_
    rw [hN.n8]
    refine z_ireturn eX11_count_168 rfl ?_
    rw [h1_7]; exact ⟨rfl, rfl, rfl, rfl⟩
  by_cases h1_8 : w = 8
  · refine z_tsIn (off := 168) (tgt := 169) eX11_count_1 ⟨by omega, by omega⟩ ⟨by omega, by omega⟩ (by rw [h1_8]; rfl) rfl ?_
    refine z_al0 eX11_count_169 hne ?_
    first | refine z_ta0 lX11_20 eX11_count_170 rfl hT hA (by decide) rfl rfl ?_ | refine z_ta lX11_20 eX11_count_170 rfl hT hA ⟨by decide, by decide⟩ rfl rfl ?_
    first | refine z_tg0 (j := 8) lX11_374 eX11_count_173 rfl hT hD (by decide) rfl rfl rfl ?_ | refine z_tg (j := 8) lX11_374 eX11_count_173 rfl hT hD ⟨by decide, by decide⟩ rfl rfl rfl ?_
    rw [hN.n9]
    refine z_ireturn eX11_count_176 rfl ?_
    rw [h1_8]; exact ⟨rfl, rfl, rfl, rfl⟩
  by_cases h1_9 : w = 9
  · refine z_tsIn (off := 176) (tgt := 177) eX11_count_1 ⟨by omega, by omega⟩ ⟨by omega, by omega⟩ (by rw [h1_9]; rfl) rfl ?_
    refine z_al0 eX11_count_177 hne ?_
    first | refine z_ta0 lX11_20 eX11_count_178 rfl hT hA (by decide) rfl rfl ?_ | refine z_ta lX11_20 eX11_count_178 rfl hT hA ⟨by decide, by decide⟩ rfl rfl ?_
    first | refine z_tg0 (j := 9) lX11_438 eX11_count_181 rfl hT hD (by decide) rfl rfl rfl ?_ | refine z_tg (j := 9) lX11_438 eX11_count_181 rfl hT hD ⟨by decide, by decide⟩ rfl rfl rfl ?_
    rw [hN.n10]
    refine z_ireturn eX11_count_184 rfl ?_
    rw [h1_9]; exact ⟨rfl, rfl, rfl, rfl⟩
  by_cases h1_10 : w = 10
  · refine z_tsIn (off := 184) (tgt := 185) eX11_count_1 ⟨by omega, by omega⟩ ⟨by omega, by omega⟩ (by rw [h1_10]; rfl) rfl ?_
    refine z_al0 eX11_count_185 hne ?_
    first | refine z_ta0 lX11_20 eX11_count_186 rfl hT hA (by decide) rfl rfl ?_ | refine z_ta lX11_20 eX11_count_186 rfl hT hA ⟨by decide, by decide⟩ rfl rfl ?_
    first | refine z_ta0 lX11_154 eX11_count_189 rfl hT hD (by decide) rfl rfl ?_ | refine z_ta lX11_154 eX11_count_189 rfl hT hD ⟨by decide, by decide⟩ rfl rfl ?_
    refine z_iconst eX11_count_192 ?_
    refine z_V1 eX11_count_193 vX11_270 rfl rfl (Nat.le_of_ble_eq_true rfl) (Nat.le_of_ble_eq_true rfl) ((hD.mo).L0 hT (by decide)) (c_X6_inState hT hD.mo hN.mo hI (by decide)) ?_
    refine z_ireturn eX11_count_196 rfl ?_
    rw [h1_10]; exact ⟨rfl, rfl, rfl, rfl⟩
  by_cases h1_11 : w = 11
  · refine z_tsIn (off := 196) (tgt := 197) eX11_count_1 ⟨by omega, by omega⟩ ⟨by omega, by omega⟩ (by rw [h1_11]; rfl) rfl ?_
    refine z_al0 eX11_count_197 hne ?_
    first | refine z_ta0 lX11_20 eX11_count_198 rfl hT hA (by decide) rfl rfl ?_ | refine z_ta lX11_20 eX11_count_198 rfl hT hA ⟨by decide, by decide⟩ rfl rfl ?_
    first | refine z_ta0 lX11_154 eX11_count_201 rfl hT hD (by decide) rfl rfl ?_ | refine z_ta lX11_154 eX11_count_201 rfl hT hD ⟨by decide, by decide⟩ rfl rfl ?_
    refine z_iconst eX11_count_204 ?_
    refine z_V1 eX11_count_205 vX11_270 rfl rfl (Nat.le_of_ble_eq_true rfl) (Nat.le_of_ble_eq_true rfl) ((hD.mo).L0 hT (by decide)) (c_X6_inState hT hD.mo hN.mo hI (by decide)) ?_
    refine z_ireturn eX11_count_208 rfl ?_
    rw [h1_11]; exact ⟨rfl, rfl, rfl, rfl⟩
  by_cases h1_12 : w = 12
  · refine z_tsIn (off := 208) (tgt := 209) eX11_count_1 ⟨by omega, by omega⟩ ⟨by omega, by omega⟩ (by rw [h1_12]; rfl) rfl ?_
    refine z_al0 eX11_count_209 hne ?_
    first | refine z_ta0 lX11_20 eX11_count_210 rfl hT hA (by decide) rfl rfl ?_ | refine z_ta lX11_20 eX11_count_210 rfl hT hA ⟨by decide, by decide⟩ rfl rfl ?_
    first | refine z_tg0 (j := 5) lX11_147 eX11_count_213 rfl hT hD (by decide) rfl rfl rfl ?_ | refine z_tg (j := 5) lX11_147 eX11_count_213 rfl hT hD ⟨by decide, by decide⟩ rfl rfl rfl ?_
    rw [hN.ou]
    refine z_ireturn eX11_count_216 rfl ?_
    rw [h1_12]; exact ⟨rfl, rfl, rfl, rfl⟩
  by_cases h1_13 : w = 13
  · refine z_tsIn (off := 216) (tgt := 217) eX11_count_1 ⟨by omega, by omega⟩ ⟨by omega, by omega⟩ (by rw [h1_13]; rfl) rfl ?_
    refine z_al0 eX11_count_217 hne ?_
    first | refine z_ta0 lX11_20 eX11_count_218 rfl hT hA (by decide) rfl rfl ?_ | refine z_ta lX11_20 eX11_count_218 rfl hT hA ⟨by decide, by decide⟩ rfl rfl ?_
    first | refine z_ta0 lX11_413 eX11_count_221 rfl hT hD (by decide) rfl rfl ?_ | refine z_ta lX11_413 eX11_count_221 rfl hT hD ⟨by decide, by decide⟩ rfl rfl ?_
    first | refine z_tg0 (j := 0) lX11_417 eX11_count_224 rfl hT hD.lo (by decide) rfl rfl rfl ?_ | refine z_tg (j := 0) lX11_417 eX11_count_224 rfl hT hD.lo ⟨by decide, by decide⟩ rfl rfl rfl ?_
    rw [hN.lo.1]
    refine z_ireturn eX11_count_227 rfl ?_
    rw [h1_13]; exact ⟨rfl, rfl, rfl, rfl⟩
  by_cases h1_14 : w = 14
  · refine z_tsIn (off := 227) (tgt := 228) eX11_count_1 ⟨by omega, by omega⟩ ⟨by omega, by omega⟩ (by rw [h1_14]; rfl) rfl ?_
    refine z_al0 eX11_count_228 hne ?_
    first | refine z_tg0 (j := 9) lX11_425 eX11_count_229 rfl hT hA (by decide) rfl rfl rfl ?_ | refine z_tg (j := 9) lX11_425 eX11_count_229 rfl hT hA ⟨by decide, by decide⟩ rfl rfl rfl ?_
    refine z_ireturn eX11_count_232 rfl ?_
    rw [h1_14]; exact ⟨rfl, rfl, rfl, rfl⟩
  refine z_tsOut (tgt := 233) eX11_count_1 ⟨by omega, by omega⟩ (by omega) rfl ?_
  refine z_iconst eX11_count_233 ?_
  refine z_ireturn eX11_count_234 rfl ?_
  have e : qCountC M (σ 0 9) w = -1 := by unfold qCountC; rw [if_neg h1_0, if_neg h1_1, if_neg h1_2, if_neg h1_3, if_neg (by omega), if_neg (by omega), if_neg h1_12, if_neg h1_13, if_neg h1_14]
  rw [e]; exact ⟨rfl, rfl, rfl, rfl⟩
  
theorem c_X11_tabled {G : zG} {lay : zLay} {σ C0 : zMem} {nx x : Int} (hT : TopL lay x) {M : Int → Int} (hN : CoN σ (0 + 2) M) (hM : zOC M) : zMM G 2 KX11_tabled [zP (x + 0)] lay (tC x σ C0) nx (0, 0) (zR (some (zI (qTabled M 12))) lay (tC x (σ) (C0)) nx) := by
  refine z_met' (L := [zP (x + 0), zU, zU, zU]) gX11_tabled.1 rfl rfl (Nat.le_of_ble_eq_true rfl) rfl ?_
  have hA := TpAt
  have hx := hT.1
  have hne : x + 0 ≠ -1 := by omega
  have hD := isCo.now
  have hm4 := hM.I.m4
  have hl : ∀ h : Int, 0 ≤ h → h ≤ 12 → ∀ y : zAV, zW G KX11_tabled 2 (zR (some (zI (qTabled M 12))) lay (tC x σ C0) nx) 4 [zP (x + 0), zI (qTabled M h), zI h, y] [] lay (tC x σ C0) nx (0, 0) := by
    refine z_up 12 ?_ ?_
    · intro y
      refine z_il2 eX11_tabled_4 ?_
      refine z_bipush eX11_tabled_5 (by decide) ?_
      refine z_icmp_ge (tgt := 49) eX11_tabled_7 rfl ⟨⟨by omega, by omega⟩, ⟨by omega, by omega⟩⟩ (fun h7 => ?_) (fun h7 => (by exfalso; omega))
      refine z_il1 eX11_tabled_49 ?_
      refine z_ireturn eX11_tabled_50 rfl ?_
      first | exact ⟨rfl, rfl, rfl, rfl⟩ | exact zRb1 (by omega) | exact zRb0 (by omega) | exact zRe (by omega)
    · intro h h0 h1 ih y
      have hP := hM.I.P8 (t := h) ⟨h0, h1⟩
      have hp2 := hM.pa h h0 h1
      have hpa := hN.mo.2.2 h h0 h1
      have e : qTabled M (h + 1) = zor (qTabled M h) (if M (114 + h) = -1 then 0 else zshl 1 (M (114 + h))) := zors_s _ h0
      have e0 : zor (qTabled M h) 0 = qTabled M h := zB_ext (zor_in _ _) (zors_in _ h0) (fun k hk => by rw [zB_or, zB_0, Bool.or_false])
      rw [e] at ih
      refine z_il2 eX11_tabled_4 ?_
      refine z_bipush eX11_tabled_5 (by decide) ?_
      refine z_icmp_ge (tgt := 49) eX11_tabled_7 rfl ⟨⟨by omega, by omega⟩, ⟨by omega, by omega⟩⟩ (fun h7 => (by exfalso; omega)) (fun h7 => ?_)
      refine z_al0 eX11_tabled_10 hne ?_
      first | refine z_ta0 lX11_20 eX11_tabled_11 rfl hT hA (by decide) rfl rfl ?_ | refine z_ta lX11_20 eX11_tabled_11 rfl hT hA ⟨by decide, by decide⟩ rfl rfl ?_
      first | refine z_ta0 lX11_154 eX11_tabled_14 rfl hT hD (by decide) rfl rfl ?_ | refine z_ta lX11_154 eX11_tabled_14 rfl hT hD ⟨by decide, by decide⟩ rfl rfl ?_
      first | refine z_ta0 lX11_212 eX11_tabled_17 rfl hT hD.mo (by decide) rfl rfl ?_ | refine z_ta lX11_212 eX11_tabled_17 rfl hT hD.mo ⟨by decide, by decide⟩ rfl rfl ?_
      refine z_il2 eX11_tabled_20 ?_
      refine z_tl eX11_tabled_21 hT hD.mo ⟨by decide, by decide⟩ rfl rfl ⟨by omega, by omega⟩ ?_
      rw [hpa]
      refine z_is3 eX11_tabled_22 (Nat.ne_of_beq_eq_false rfl) ?_
      refine z_al0 eX11_tabled_23 hne ?_
      first | refine z_ta0 lX11_20 eX11_tabled_24 rfl hT hA (by decide) rfl rfl ?_ | refine z_ta lX11_20 eX11_tabled_24 rfl hT hA ⟨by decide, by decide⟩ rfl rfl ?_
      first | refine z_ta0 lX11_154 eX11_tabled_27 rfl hT hD (by decide) rfl rfl ?_ | refine z_ta lX11_154 eX11_tabled_27 rfl hT hD ⟨by decide, by decide⟩ rfl rfl ?_
      refine z_il3 eX11_tabled_30 ?_
      refine z_V1 eX11_tabled_31 vX11_405 rfl rfl (Nat.le_of_ble_eq_true rfl) (Nat.le_of_ble_eq_true rfl) ((hD.mo).L0 hT (by decide)) (c_X6_has hT hD.mo hN.mo hm4 ⟨by omega, by omega⟩) ?_
      refine z_ifb_eq (tgt := 43) eX11_tabled_34 rfl (fun h34 => ?_) (fun h34 => ?_)
      · refine z_ii2 eX11_tabled_43 (Nat.ne_of_beq_eq_false rfl) ?_
        refine z_goto eX11_tabled_46 (tgt := 4) rfl ?_
        first | (rw [if_neg (by omega)] at ih; exact ih _) | (rw [if_pos (by omega), e0] at ih; exact ih _) | fail
      · refine z_il1 eX11_tabled_37 ?_
        refine z_iconst eX11_tabled_38 ?_
        refine z_il3 eX11_tabled_39 ?_
        refine z_ishl eX11_tabled_40 ?_
        refine z_ior eX11_tabled_41 ?_
        refine z_is1 eX11_tabled_42 (Nat.ne_of_beq_eq_false rfl) ?_
        refine z_ii2 eX11_tabled_43 (Nat.ne_of_beq_eq_false rfl) ?_
        refine z_goto eX11_tabled_46 (tgt := 4) rfl ?_
        first | (rw [if_neg (by omega)] at ih; exact ih _) | (rw [if_pos (by omega), e0] at ih; exact ih _) | fail
  refine z_iconst eX11_tabled_0 ?_
  refine z_is1 eX11_tabled_1 (Nat.ne_of_beq_eq_false rfl) ?_
  refine z_iconst eX11_tabled_2 ?_
  refine z_is2 eX11_tabled_3 (Nat.ne_of_beq_eq_false rfl) ?_
  exact hl 0 (by decide) (by decide) _
theorem c_X11_twins {G : zG} {lay : zLay} {σ C0 : zMem} {nx x : Int} (hT : TopL lay x) {M : Int → Int} (hN : CoN σ (0 + 2) M) (hM : zOC M) : zMM G 1 KX11_twins [zP (x + 0)] lay (tC x σ C0) nx (0, 0) (zR (some (zI (qTwins M (M 3)))) lay (tC x (σ) (C0)) nx) := by
  refine z_met' (L := [zP (x + 0), zU, zU, zU]) gX11_twins.1 rfl rfl (Nat.le_of_ble_eq_true rfl) rfl ?_
  have hA := TpAt
  have hx := hT.1
  have hne : x + 0 ≠ -1 := by omega
  have hD := isCo.now
  have hm3 := hM.I.m3
  have w4 : ∀ a : Int, 0 ≤ a → a ≤ M 3 → ∀ y : zAV, zW G KX11_twins 1 (zR (some (zI (qTwins M (M 3)))) lay (tC x σ C0) nx) 4 [zP (x + 0), zI (qTwins M a), zI a, y] [] lay (tC x σ C0) nx (0, 0) := by
    refine z_up (M 3) ?_ ?_
    · intro y
      refine z_il2 eX11_twins_4 ?_
      refine z_al0 eX11_twins_5 hne ?_
      first | refine z_ta0 lX11_20 eX11_twins_6 rfl hT hA (by decide) rfl rfl ?_ | refine z_ta lX11_20 eX11_twins_6 rfl hT hA ⟨by decide, by decide⟩ rfl rfl ?_
      first | refine z_tg0 (j := 1) lX11_321 eX11_twins_9 rfl hT hD (by decide) rfl rfl rfl ?_ | refine z_tg (j := 1) lX11_321 eX11_twins_9 rfl hT hD ⟨by decide, by decide⟩ rfl rfl rfl ?_
      rw [hN.n3]
      refine z_icmp_ge (tgt := 87) eX11_twins_12 rfl ⟨⟨by omega, by omega⟩, ⟨by omega, by omega⟩⟩ (fun h12 => ?_) (fun h12 => (by exfalso; omega))
      refine z_il1 eX11_twins_87 ?_
      refine z_ireturn eX11_twins_88 rfl ?_
      first | exact ⟨rfl, rfl, rfl, rfl⟩ | exact zRb1 (by omega) | exact zRb0 (by omega) | exact zRe (by omega)
    · intro a a0 a1 ih y
      have hU := hM.I.U (p := a) ⟨a0, by omega⟩
      have ha := hN.pl a a0 a1
      have hb := hN.se a a0 a1
      have e : qTwins M (a + 1) = qTwins M a + qTwinI M a (M 3 - (a + 1)) := zsum_s _ a0
      rw [e] at ih
      generalize qTwins M a = r at ih ⊢
      have w19 : ∀ j : Int, 0 ≤ j → j ≤ M 3 - (a + 1) → zW G KX11_twins 1 (zR (some (zI (qTwins M (M 3)))) lay (tC x σ C0) nx) 19 [zP (x + 0), zI (r + qTwinI M a j), zI a, zI (a + 1 + j)] [] lay (tC x σ C0) nx (0, 0) := by
        refine z_up (M 3 - (a + 1)) ?_ ?_
        · skip
          refine z_il3 eX11_twins_19 ?_
          refine z_al0 eX11_twins_20 hne ?_
          first | refine z_ta0 lX11_20 eX11_twins_21 rfl hT hA (by decide) rfl rfl ?_ | refine z_ta lX11_20 eX11_twins_21 rfl hT hA ⟨by decide, by decide⟩ rfl rfl ?_
          first | refine z_tg0 (j := 1) lX11_321 eX11_twins_24 rfl hT hD (by decide) rfl rfl rfl ?_ | refine z_tg (j := 1) lX11_321 eX11_twins_24 rfl hT hD ⟨by decide, by decide⟩ rfl rfl rfl ?_
          rw [hN.n3]
          refine z_icmp_ge (tgt := 81) eX11_twins_27 rfl ⟨⟨by omega, by omega⟩, ⟨by omega, by omega⟩⟩ (fun h27 => ?_) (fun h27 => (by exfalso; omega))
          refine z_ii2 eX11_twins_81 (Nat.ne_of_beq_eq_false rfl) ?_
          refine z_goto eX11_twins_84 (tgt := 4) rfl ?_
          exact ih _
        · intro j j0 j1 ih2
          have hU2 := hM.I.U (p := a + 1 + j) ⟨by omega, by omega⟩
          have ha2 := hN.pl (a + 1 + j) (by omega) (by omega)
          have hb2 := hN.se (a + 1 + j) (by omega) (by omega)
          have e2 : qTwinI M a (j + 1) = qTwinI M a j + zbi (M (46 + 4 * a + 0) = M (46 + 4 * (a + 1 + j) + 0) ∧ M (46 + 4 * a + 1) = M (46 + 4 * (a + 1 + j) + 1)) := zsum_s _ j0
          rw [e2, ← Int.add_assoc] at ih2
          refine z_il3 eX11_twins_19 ?_
          refine z_al0 eX11_twins_20 hne ?_
          first | refine z_ta0 lX11_20 eX11_twins_21 rfl hT hA (by decide) rfl rfl ?_ | refine z_ta lX11_20 eX11_twins_21 rfl hT hA ⟨by decide, by decide⟩ rfl rfl ?_
          first | refine z_tg0 (j := 1) lX11_321 eX11_twins_24 rfl hT hD (by decide) rfl rfl rfl ?_ | refine z_tg (j := 1) lX11_321 eX11_twins_24 rfl hT hD ⟨by decide, by decide⟩ rfl rfl rfl ?_
          rw [hN.n3]
          refine z_icmp_ge (tgt := 81) eX11_twins_27 rfl ⟨⟨by omega, by omega⟩, ⟨by omega, by omega⟩⟩ (fun h27 => (by exfalso; omega)) (fun h27 => ?_)
          refine z_al0 eX11_twins_30 hne ?_
          first | refine z_ta0 lX11_20 eX11_twins_31 rfl hT hA (by decide) rfl rfl ?_ | refine z_ta lX11_20 eX11_twins_31 rfl hT hA ⟨by decide, by decide⟩ rfl rfl ?_
          first | refine z_ta0 lX11_134 eX11_twins_34 rfl hT hD (by decide) rfl rfl ?_ | refine z_ta lX11_134 eX11_twins_34 rfl hT hD ⟨by decide, by decide⟩ rfl rfl ?_
          refine z_il2 eX11_twins_37 ?_
          refine z_tl eX11_twins_38 hT hD ⟨by decide, by decide⟩ rfl rfl ⟨by omega, by omega⟩ ?_
          refine z_al0 eX11_twins_39 hne ?_
          first | refine z_ta0 lX11_20 eX11_twins_40 rfl hT hA (by decide) rfl rfl ?_ | refine z_ta lX11_20 eX11_twins_40 rfl hT hA ⟨by decide, by decide⟩ rfl rfl ?_
          first | refine z_ta0 lX11_134 eX11_twins_43 rfl hT hD (by decide) rfl rfl ?_ | refine z_ta lX11_134 eX11_twins_43 rfl hT hD ⟨by decide, by decide⟩ rfl rfl ?_
          refine z_il3 eX11_twins_46 ?_
          refine z_tl eX11_twins_47 hT hD ⟨by decide, by decide⟩ rfl rfl ⟨by omega, by omega⟩ ?_
          rw [ha, ha2]
          refine z_icmp_ne (tgt := 75) eX11_twins_48 rfl ⟨⟨by omega, by omega⟩, ⟨by omega, by omega⟩⟩ (fun h48 => ?_) (fun h48 => ?_)
          · refine z_ii3 eX11_twins_75 (Nat.ne_of_beq_eq_false rfl) ?_
            refine z_goto eX11_twins_78 (tgt := 19) rfl ?_
            rw [show a + 1 + j + 1 = a + 1 + (j + 1) by omega]; first | (have e3 := h69; first | (rw [zbi_t ⟨by omega, by omega⟩] at ih2; exact ih2) | (rw [zbi_f (fun z => by omega), Int.add_zero (r + qTwinI M a j)] at ih2; exact ih2)) | (rw [zbi_f (fun z => by omega), Int.add_zero (r + qTwinI M a j)] at ih2; exact ih2) | fail
          · refine z_al0 eX11_twins_51 hne ?_
            first | refine z_ta0 lX11_20 eX11_twins_52 rfl hT hA (by decide) rfl rfl ?_ | refine z_ta lX11_20 eX11_twins_52 rfl hT hA ⟨by decide, by decide⟩ rfl rfl ?_
            first | refine z_ta0 lX11_137 eX11_twins_55 rfl hT hD (by decide) rfl rfl ?_ | refine z_ta lX11_137 eX11_twins_55 rfl hT hD ⟨by decide, by decide⟩ rfl rfl ?_
            refine z_il2 eX11_twins_58 ?_
            refine z_tl eX11_twins_59 hT hD ⟨by decide, by decide⟩ rfl rfl ⟨by omega, by omega⟩ ?_
            refine z_al0 eX11_twins_60 hne ?_
            first | refine z_ta0 lX11_20 eX11_twins_61 rfl hT hA (by decide) rfl rfl ?_ | refine z_ta lX11_20 eX11_twins_61 rfl hT hA ⟨by decide, by decide⟩ rfl rfl ?_
            first | refine z_ta0 lX11_137 eX11_twins_64 rfl hT hD (by decide) rfl rfl ?_ | refine z_ta lX11_137 eX11_twins_64 rfl hT hD ⟨by decide, by decide⟩ rfl rfl ?_
            refine z_il3 eX11_twins_67 ?_
            refine z_tl eX11_twins_68 hT hD ⟨by decide, by decide⟩ rfl rfl ⟨by omega, by omega⟩ ?_
            rw [hb, hb2]
            refine z_icmp_ne (tgt := 75) eX11_twins_69 rfl ⟨⟨by omega, by omega⟩, ⟨by omega, by omega⟩⟩ (fun h69 => ?_) (fun h69 => ?_)
            · refine z_ii3 eX11_twins_75 (Nat.ne_of_beq_eq_false rfl) ?_
              refine z_goto eX11_twins_78 (tgt := 19) rfl ?_
              rw [show a + 1 + j + 1 = a + 1 + (j + 1) by omega]; first | (have e3 := h69; first | (rw [zbi_t ⟨by omega, by omega⟩] at ih2; exact ih2) | (rw [zbi_f (fun z => by omega), Int.add_zero (r + qTwinI M a j)] at ih2; exact ih2)) | (rw [zbi_f (fun z => by omega), Int.add_zero (r + qTwinI M a j)] at ih2; exact ih2) | fail
            · refine z_ii1 eX11_twins_72 (Nat.ne_of_beq_eq_false rfl) ?_
              refine z_ii3 eX11_twins_75 (Nat.ne_of_beq_eq_false rfl) ?_
              refine z_goto eX11_twins_78 (tgt := 19) rfl ?_
              rw [show a + 1 + j + 1 = a + 1 + (j + 1) by omega]; first | (have e3 := h69; first | (rw [zbi_t ⟨by omega, by omega⟩] at ih2; exact ih2) | (rw [zbi_f (fun z => by omega), Int.add_zero (r + qTwinI M a j)] at ih2; exact ih2)) | (rw [zbi_f (fun z => by omega), Int.add_zero (r + qTwinI M a j)] at ih2; exact ih2) | fail
      have h0 := w19 0 (by decide) (by omega)
      rw [show qTwinI M a 0 = 0 from rfl, Int.add_zero r, Int.add_zero (a + 1)] at h0
      refine z_il2 eX11_twins_4 ?_
      refine z_al0 eX11_twins_5 hne ?_
      first | refine z_ta0 lX11_20 eX11_twins_6 rfl hT hA (by decide) rfl rfl ?_ | refine z_ta lX11_20 eX11_twins_6 rfl hT hA ⟨by decide, by decide⟩ rfl rfl ?_
      first | refine z_tg0 (j := 1) lX11_321 eX11_twins_9 rfl hT hD (by decide) rfl rfl rfl ?_ | refine z_tg (j := 1) lX11_321 eX11_twins_9 rfl hT hD ⟨by decide, by decide⟩ rfl rfl rfl ?_
      rw [hN.n3]
      refine z_icmp_ge (tgt := 87) eX11_twins_12 rfl ⟨⟨by omega, by omega⟩, ⟨by omega, by omega⟩⟩ (fun h12 => (by exfalso; omega)) (fun h12 => ?_)
      refine z_il2 eX11_twins_15 ?_
      refine z_iconst eX11_twins_16 ?_
      refine z_iadd eX11_twins_17 ?_
      refine z_is3 eX11_twins_18 (Nat.ne_of_beq_eq_false rfl) ?_
      exact h0
  refine z_iconst eX11_twins_0 ?_
  refine z_is1 eX11_twins_1 (Nat.ne_of_beq_eq_false rfl) ?_
  refine z_iconst eX11_twins_2 ?_
  refine z_is2 eX11_twins_3 (Nat.ne_of_beq_eq_false rfl) ?_
  exact w4 0 (by decide) hm3.1 _
theorem c_X11_richest {G : zG} {lay : zLay} {σ C0 : zMem} {nx x : Int} (hT : TopL lay x) {M : Int → Int} (hN : CoN σ (0 + 2) M) (hM : zOC M) : zMM G 1 KX11_richest [zP (x + 0)] lay (tC x σ C0) nx (0, 0) (zR (some (zI (qRich M (M 4)))) lay (tC x (σ) (C0)) nx) := by
  refine z_met' (L := [zP (x + 0), zU, zU, zU, zU]) gX11_richest.1 rfl rfl (Nat.le_of_ble_eq_true rfl) rfl ?_
  have hA := TpAt
  have hx := hT.1
  have hne : x + 0 ≠ -1 := by omega
  have hD := isCo.now
  have hm4 := hM.I.m4
  have hl : ∀ k : Int, 0 ≤ k → k ≤ M 4 → ∀ (m : Int) (y : zAV), m = (if qRich M k = -1 then -1 else M (74 + 5 * qRich M k + 2)) → zW G KX11_richest 1 (zR (some (zI (qRich M (M 4)))) lay (tC x σ C0) nx) 6 [zP (x + 0), zI m, zI (qRich M k), zI k, y] [] lay (tC x σ C0) nx (0, 0) := by
    refine z_up (M 4) ?_ ?_
    · intro m y hm
      refine z_il3 eX11_richest_6 ?_
      refine z_al0 eX11_richest_7 hne ?_
      first | refine z_ta0 lX11_20 eX11_richest_8 rfl hT hA (by decide) rfl rfl ?_ | refine z_ta lX11_20 eX11_richest_8 rfl hT hA ⟨by decide, by decide⟩ rfl rfl ?_
      first | refine z_ta0 lX11_154 eX11_richest_11 rfl hT hD (by decide) rfl rfl ?_ | refine z_ta lX11_154 eX11_richest_11 rfl hT hD ⟨by decide, by decide⟩ rfl rfl ?_
      first | refine z_tg0 (j := 0) lX11_294 eX11_richest_14 rfl hT hD.mo (by decide) rfl rfl rfl ?_ | refine z_tg (j := 0) lX11_294 eX11_richest_14 rfl hT hD.mo ⟨by decide, by decide⟩ rfl rfl rfl ?_
      rw [hN.mo.1]
      refine z_icmp_ge (tgt := 84) eX11_richest_17 rfl ⟨⟨by omega, by omega⟩, ⟨by omega, by omega⟩⟩ (fun h17 => ?_) (fun h17 => (by exfalso; omega))
      refine z_il2 eX11_richest_84 ?_
      refine z_ireturn eX11_richest_85 rfl ?_
      first | exact ⟨rfl, rfl, rfl, rfl⟩ | exact zRb1 (by omega) | exact zRb0 (by omega) | exact zRe (by omega)
    · intro k k0 k1 ih m y hm
      have hV := hM.I.V (k := k) ⟨k0, by omega⟩
      have hr := qRich_bd M k0
      have hc := hN.mo.2.1 k k0 k1
      have e : qRich M (k + 1) = if M (74 + 5 * k + 4) = 0 ∧ (qRich M k = -1 ∨ M (74 + 5 * qRich M k + 2) < M (74 + 5 * k + 2)) then k else qRich M k := by unfold qRich; rw [zfold_s _ _ k0]
      rw [e] at ih
      generalize qRich M k = r at ih hr hm ⊢
      have hV2 : r ≠ -1 → _ := fun z => hM.I.V (k := r) ⟨by omega, by omega⟩
      have hmb : -1 ≤ m ∧ m ≤ 9999 := by
        rw [hm]
        split
        · omega
        · rename_i z
          have := hV2 z
          omega
      refine z_il3 eX11_richest_6 ?_
      refine z_al0 eX11_richest_7 hne ?_
      first | refine z_ta0 lX11_20 eX11_richest_8 rfl hT hA (by decide) rfl rfl ?_ | refine z_ta lX11_20 eX11_richest_8 rfl hT hA ⟨by decide, by decide⟩ rfl rfl ?_
      first | refine z_ta0 lX11_154 eX11_richest_11 rfl hT hD (by decide) rfl rfl ?_ | refine z_ta lX11_154 eX11_richest_11 rfl hT hD ⟨by decide, by decide⟩ rfl rfl ?_
      first | refine z_tg0 (j := 0) lX11_294 eX11_richest_14 rfl hT hD.mo (by decide) rfl rfl rfl ?_ | refine z_tg (j := 0) lX11_294 eX11_richest_14 rfl hT hD.mo ⟨by decide, by decide⟩ rfl rfl rfl ?_
      rw [hN.mo.1]
      refine z_icmp_ge (tgt := 84) eX11_richest_17 rfl ⟨⟨by omega, by omega⟩, ⟨by omega, by omega⟩⟩ (fun h17 => (by exfalso; omega)) (fun h17 => ?_)
      refine z_al0 eX11_richest_20 hne ?_
      first | refine z_ta0 lX11_20 eX11_richest_21 rfl hT hA (by decide) rfl rfl ?_ | refine z_ta lX11_20 eX11_richest_21 rfl hT hA ⟨by decide, by decide⟩ rfl rfl ?_
      first | refine z_ta0 lX11_154 eX11_richest_24 rfl hT hD (by decide) rfl rfl ?_ | refine z_ta lX11_154 eX11_richest_24 rfl hT hD ⟨by decide, by decide⟩ rfl rfl ?_
      first | refine z_ta0 lX11_183 eX11_richest_27 rfl hT hD.mo (by decide) rfl rfl ?_ | refine z_ta lX11_183 eX11_richest_27 rfl hT hD.mo ⟨by decide, by decide⟩ rfl rfl ?_
      refine z_il3 eX11_richest_30 ?_
      refine z_tl eX11_richest_31 hT hD.mo ⟨by decide, by decide⟩ rfl rfl ⟨by omega, by omega⟩ ?_
      rw [hc.2.2.2.2]
      refine z_if_ne (tgt := 39) eX11_richest_32 rfl ⟨by omega, by omega⟩ (fun h32 => ?_) (fun h32 => ?_)
      · refine z_iconst eX11_richest_39 ?_
        refine z_is4 eX11_richest_40 (Nat.ne_of_beq_eq_false rfl) ?_
        refine z_il4 eX11_richest_42 ?_
        refine z_if_eq (tgt := 78) eX11_richest_44 rfl ⟨by omega, by omega⟩ (fun h44 => ?_) (fun h44 => (by exfalso; omega))
        refine z_ii3 eX11_richest_78 (Nat.ne_of_beq_eq_false rfl) ?_
        refine z_goto eX11_richest_81 (tgt := 6) rfl ?_
        first | (have e3 := h60; have e4 : (M (74 + 5 * k + 4) = 0 ∧ (r = -1 ∨ M (74 + 5 * r + 2) < M (74 + 5 * k + 2))) = True := eq_true (by refine ⟨by omega, ?_⟩; by_cases z : r = -1; exact Or.inl z; rw [if_neg z] at hm; exact Or.inr (by omega)); simp only [e4, if_true] at ih; exact ih _ _ (by rw [if_neg (by omega)])) | (have e3 := h60; have e4 : (M (74 + 5 * k + 4) = 0 ∧ (r = -1 ∨ M (74 + 5 * r + 2) < M (74 + 5 * k + 2))) = False := eq_false (fun z => by rcases z.2 with z | z; rw [if_pos z] at hm; omega; rw [if_neg (by omega)] at hm; omega); simp only [e4, if_false] at ih; exact ih _ _ hm) | (have e4 : (M (74 + 5 * k + 4) = 0 ∧ (r = -1 ∨ M (74 + 5 * r + 2) < M (74 + 5 * k + 2))) = False := eq_false (fun z => by omega); simp only [e4, if_false] at ih; exact ih _ _ hm)
      · refine z_iconst eX11_richest_35 ?_
        refine z_goto eX11_richest_36 (tgt := 40) rfl ?_
        refine z_is4 eX11_richest_40 (Nat.ne_of_beq_eq_false rfl) ?_
        refine z_il4 eX11_richest_42 ?_
        refine z_if_eq (tgt := 78) eX11_richest_44 rfl ⟨by omega, by omega⟩ (fun h44 => (by exfalso; omega)) (fun h44 => ?_)
        refine z_al0 eX11_richest_47 hne ?_
        first | refine z_ta0 lX11_20 eX11_richest_48 rfl hT hA (by decide) rfl rfl ?_ | refine z_ta lX11_20 eX11_richest_48 rfl hT hA ⟨by decide, by decide⟩ rfl rfl ?_
        first | refine z_ta0 lX11_154 eX11_richest_51 rfl hT hD (by decide) rfl rfl ?_ | refine z_ta lX11_154 eX11_richest_51 rfl hT hD ⟨by decide, by decide⟩ rfl rfl ?_
        first | refine z_ta0 lX11_177 eX11_richest_54 rfl hT hD.mo (by decide) rfl rfl ?_ | refine z_ta lX11_177 eX11_richest_54 rfl hT hD.mo ⟨by decide, by decide⟩ rfl rfl ?_
        refine z_il3 eX11_richest_57 ?_
        refine z_tl eX11_richest_58 hT hD.mo ⟨by decide, by decide⟩ rfl rfl ⟨by omega, by omega⟩ ?_
        refine z_il1 eX11_richest_59 ?_
        rw [hc.2.2.1]
        refine z_icmp_le (tgt := 78) eX11_richest_60 rfl ⟨⟨by omega, by omega⟩, ⟨by omega, by omega⟩⟩ (fun h60 => ?_) (fun h60 => ?_)
        · refine z_ii3 eX11_richest_78 (Nat.ne_of_beq_eq_false rfl) ?_
          refine z_goto eX11_richest_81 (tgt := 6) rfl ?_
          first | (have e3 := h60; have e4 : (M (74 + 5 * k + 4) = 0 ∧ (r = -1 ∨ M (74 + 5 * r + 2) < M (74 + 5 * k + 2))) = True := eq_true (by refine ⟨by omega, ?_⟩; by_cases z : r = -1; exact Or.inl z; rw [if_neg z] at hm; exact Or.inr (by omega)); simp only [e4, if_true] at ih; exact ih _ _ (by rw [if_neg (by omega)])) | (have e3 := h60; have e4 : (M (74 + 5 * k + 4) = 0 ∧ (r = -1 ∨ M (74 + 5 * r + 2) < M (74 + 5 * k + 2))) = False := eq_false (fun z => by rcases z.2 with z | z; rw [if_pos z] at hm; omega; rw [if_neg (by omega)] at hm; omega); simp only [e4, if_false] at ih; exact ih _ _ hm) | (have e4 : (M (74 + 5 * k + 4) = 0 ∧ (r = -1 ∨ M (74 + 5 * r + 2) < M (74 + 5 * k + 2))) = False := eq_false (fun z => by omega); simp only [e4, if_false] at ih; exact ih _ _ hm)
        · refine z_al0 eX11_richest_63 hne ?_
          first | refine z_ta0 lX11_20 eX11_richest_64 rfl hT hA (by decide) rfl rfl ?_ | refine z_ta lX11_20 eX11_richest_64 rfl hT hA ⟨by decide, by decide⟩ rfl rfl ?_
          first | refine z_ta0 lX11_154 eX11_richest_67 rfl hT hD (by decide) rfl rfl ?_ | refine z_ta lX11_154 eX11_richest_67 rfl hT hD ⟨by decide, by decide⟩ rfl rfl ?_
          first | refine z_ta0 lX11_177 eX11_richest_70 rfl hT hD.mo (by decide) rfl rfl ?_ | refine z_ta lX11_177 eX11_richest_70 rfl hT hD.mo ⟨by decide, by decide⟩ rfl rfl ?_
          refine z_il3 eX11_richest_73 ?_
          refine z_tl eX11_richest_74 hT hD.mo ⟨by decide, by decide⟩ rfl rfl ⟨by omega, by omega⟩ ?_
          rw [hc.2.2.1]
          refine z_is1 eX11_richest_75 (Nat.ne_of_beq_eq_false rfl) ?_
          refine z_il3 eX11_richest_76 ?_
          refine z_is2 eX11_richest_77 (Nat.ne_of_beq_eq_false rfl) ?_
          refine z_ii3 eX11_richest_78 (Nat.ne_of_beq_eq_false rfl) ?_
          refine z_goto eX11_richest_81 (tgt := 6) rfl ?_
          first | (have e3 := h60; have e4 : (M (74 + 5 * k + 4) = 0 ∧ (r = -1 ∨ M (74 + 5 * r + 2) < M (74 + 5 * k + 2))) = True := eq_true (by refine ⟨by omega, ?_⟩; by_cases z : r = -1; exact Or.inl z; rw [if_neg z] at hm; exact Or.inr (by omega)); simp only [e4, if_true] at ih; exact ih _ _ (by rw [if_neg (by omega)])) | (have e3 := h60; have e4 : (M (74 + 5 * k + 4) = 0 ∧ (r = -1 ∨ M (74 + 5 * r + 2) < M (74 + 5 * k + 2))) = False := eq_false (fun z => by rcases z.2 with z | z; rw [if_pos z] at hm; omega; rw [if_neg (by omega)] at hm; omega); simp only [e4, if_false] at ih; exact ih _ _ hm) | (have e4 : (M (74 + 5 * k + 4) = 0 ∧ (r = -1 ∨ M (74 + 5 * r + 2) < M (74 + 5 * k + 2))) = False := eq_false (fun z => by omega); simp only [e4, if_false] at ih; exact ih _ _ hm)
  refine z_iconst eX11_richest_0 ?_
  refine z_is1 eX11_richest_1 (Nat.ne_of_beq_eq_false rfl) ?_
  refine z_iconst eX11_richest_2 ?_
  refine z_is2 eX11_richest_3 (Nat.ne_of_beq_eq_false rfl) ?_
  refine z_iconst eX11_richest_4 ?_
  refine z_is3 eX11_richest_5 (Nat.ne_of_beq_eq_false rfl) ?_
  exact hl 0 (by decide) hm4.1 _ _ rfl
theorem c_X11_led {G : zG} {lay : zLay} {σ C0 : zMem} {nx x : Int} (hT : TopL lay x) {k w : Int} {M : Int → Int} (hN : CoN σ (0 + 2) M) (hM : zOC M) (hk : zin k) (hw : w = 0 ∨ w = 1) : zMM G 8 KX11_led [zP (x + 0), zI k, zI w] lay (tC x σ C0) nx (1, 6) (zGd (0 ≤ k ∧ k < M 4) zEb lay (tC x σ C0) nx (zR (some (zI (qLed M k w))) lay (tC x (σ) (C0)) nx)) := by
  refine z_met' (L := [zP (x + 0), zI k, zI w, zU, zU, zU]) gX11_led.1 rfl rfl (Nat.le_of_ble_eq_true rfl) rfl ?_
  have hA := TpAt
  have hx := hT.1
  have hne : x + 0 ≠ -1 := by omega
  have hD := isCo.now
  have hm4 := hM.I.m4
  have h11 := hM.I.s 11 rfl (by omega)
  have hl : ∀ (Q : zQ), Q (.inl (some (zI (qLed M k w)))) lay (tC x σ C0) nx → 0 ≤ k ∧ k < M 4 → ∀ (n : Nat) (r q : Int × Int), (n : Int) ≤ M 11 → qLedN M k n r = q → (if w = 1 then q.2 else q.1) = qLed M k w → ∀ i : Int, i = (n : Int) - 1 → zW G KX11_led 8 Q 24 [zP (x + 0), zI k, zI w, zI r.1, zI r.2, zI i] [] lay (tC x σ C0) nx (0, 0) := by
    intro Q hQ hk1 n
    induction n with
    | zero =>
      intro r q hn hq hv i hi
      have hq2 : r = q := hq
      subst hq2
      refine z_il5 eX11_led_24 ?_
      refine z_if_lt (tgt := 70) eX11_led_26 rfl ⟨by omega, by omega⟩ (fun h26 => ?_) (fun h26 => (by exfalso; omega))
      refine z_il2 eX11_led_70 ?_
      refine z_if_eq (tgt := 79) eX11_led_71 rfl ⟨by omega, by omega⟩ (fun h71 => ?_) (fun h71 => ?_)
      · refine z_il3 eX11_led_79 ?_
        refine z_ireturn eX11_led_80 rfl ?_
        first | (rw [if_pos (by omega)] at hv; rw [hv]; exact hQ) | (rw [if_neg (by omega)] at hv; rw [hv]; exact hQ)
      · refine z_il4 eX11_led_74 ?_
        refine z_goto eX11_led_76 (tgt := 80) rfl ?_
        refine z_ireturn eX11_led_80 rfl ?_
        first | (rw [if_pos (by omega)] at hv; rw [hv]; exact hQ) | (rw [if_neg (by omega)] at hv; rw [hv]; exact hQ)
    | succ n ih =>
      intro r q hn hq hv i hi
      have hi2 : i = (n : Int) := by omega
      subst hi2
      have hG := hM.I.G (i := 5 * (n : Int) + 2) ⟨by omega, by omega⟩
      rw [show 126 + (5 * (n : Int) + 2) = 126 + 5 * (n : Int) + 2 by omega] at hG
      unfold qLedN at hq
      refine z_il5 eX11_led_24 ?_
      refine z_if_lt (tgt := 70) eX11_led_26 rfl ⟨by omega, by omega⟩ (fun h26 => (by exfalso; omega)) (fun h26 => ?_)
      refine z_al0 eX11_led_29 hne ?_
      first | refine z_ta0 lX11_20 eX11_led_30 rfl hT hA (by decide) rfl rfl ?_ | refine z_ta lX11_20 eX11_led_30 rfl hT hA ⟨by decide, by decide⟩ rfl rfl ?_
      first | refine z_ta0 lX11_413 eX11_led_33 rfl hT hD (by decide) rfl rfl ?_ | refine z_ta lX11_413 eX11_led_33 rfl hT hD ⟨by decide, by decide⟩ rfl rfl ?_
      refine z_il5 eX11_led_36 ?_
      refine z_iconst eX11_led_38 ?_
      refine z_V2 eX11_led_39 vX11_420 rfl rfl (Nat.le_of_ble_eq_true rfl) (Nat.le_of_ble_eq_true rfl) ((hD.lo).L0 hT (by decide)) (c_X5_valueOf hT hD.lo hN.lo hM.I (by refine ⟨?_, ?_⟩ <;> omega) (by decide)) ?_
      rw [if_pos (by omega)]
      refine z_il1 eX11_led_42 ?_
      refine z_icmp_ne (tgt := 64) eX11_led_43 rfl ⟨⟨by omega, by omega⟩, ⟨by omega, by omega⟩⟩ (fun h43 => ?_) (fun h43 => ?_)
      · refine z_ii5 eX11_led_64 (Nat.ne_of_beq_eq_false rfl) ?_
        refine z_goto eX11_led_67 (tgt := 24) rfl ?_
        first | (have e := h43; rw [if_pos (by omega)] at hq; exact ih (r.1 + 1, M (126 + 5 * (n : Int) + 3)) q (by omega) hq hv _ rfl) | (rw [if_neg (by omega)] at hq; exact ih r q (by omega) hq hv _ rfl) | fail
      · refine z_ii3 eX11_led_46 (Nat.ne_of_beq_eq_false rfl) ?_
        refine z_al0 eX11_led_49 hne ?_
        first | refine z_ta0 lX11_20 eX11_led_50 rfl hT hA (by decide) rfl rfl ?_ | refine z_ta lX11_20 eX11_led_50 rfl hT hA ⟨by decide, by decide⟩ rfl rfl ?_
        first | refine z_ta0 lX11_413 eX11_led_53 rfl hT hD (by decide) rfl rfl ?_ | refine z_ta lX11_413 eX11_led_53 rfl hT hD ⟨by decide, by decide⟩ rfl rfl ?_
        refine z_il5 eX11_led_56 ?_
        refine z_iconst eX11_led_58 ?_
        refine z_V2 eX11_led_59 vX11_420 rfl rfl (Nat.le_of_ble_eq_true rfl) (Nat.le_of_ble_eq_true rfl) ((hD.lo).L0 hT (by decide)) (c_X5_valueOf hT hD.lo hN.lo hM.I (by refine ⟨?_, ?_⟩ <;> omega) (by decide)) ?_
        rw [if_pos (by omega)]
        refine z_is4 eX11_led_62 (Nat.ne_of_beq_eq_false rfl) ?_
        refine z_ii5 eX11_led_64 (Nat.ne_of_beq_eq_false rfl) ?_
        refine z_goto eX11_led_67 (tgt := 24) rfl ?_
        first | (have e := h43; rw [if_pos (by omega)] at hq; exact ih (r.1 + 1, M (126 + 5 * (n : Int) + 3)) q (by omega) hq hv _ rfl) | (rw [if_neg (by omega)] at hq; exact ih r q (by omega) hq hv _ rfl) | fail
  have e11 : ((M 11).toNat : Int) = M 11 := Int.toNat_of_nonneg h11.1
  refine z_al0 eX11_led_0 hne ?_
  refine z_il1 eX11_led_1 ?_
  refine z_ndV1 (n := 0) eX11_led_2 vX11_168 rfl rfl (Nat.le_of_ble_eq_true rfl) (Nat.le_of_ble_eq_true rfl) (hA.L0 hT (by decide)) (c_X11_needMotion hT hN hM (by assumption)) (fun hP2 => ?_) (fun hN2 => (by first | exact Or.inr ⟨(by first | assumption | exact ⟨by omega, by omega⟩ | omega), rfl, rfl, rfl, rfl⟩))
  refine z_iconst eX11_led_5 ?_
  refine z_is3 eX11_led_6 (Nat.ne_of_beq_eq_false rfl) ?_
  refine z_iconst eX11_led_7 ?_
  refine z_is4 eX11_led_8 (Nat.ne_of_beq_eq_false rfl) ?_
  refine z_al0 eX11_led_10 hne ?_
  first | refine z_ta0 lX11_20 eX11_led_11 rfl hT hA (by decide) rfl rfl ?_ | refine z_ta lX11_20 eX11_led_11 rfl hT hA ⟨by decide, by decide⟩ rfl rfl ?_
  first | refine z_ta0 lX11_413 eX11_led_14 rfl hT hD (by decide) rfl rfl ?_ | refine z_ta lX11_413 eX11_led_14 rfl hT hD ⟨by decide, by decide⟩ rfl rfl ?_
  first | refine z_tg0 (j := 0) lX11_417 eX11_led_17 rfl hT hD.lo (by decide) rfl rfl rfl ?_ | refine z_tg (j := 0) lX11_417 eX11_led_17 rfl hT hD.lo ⟨by decide, by decide⟩ rfl rfl rfl ?_
  rw [hN.lo.1]
  refine z_iconst eX11_led_20 ?_
  refine z_isub eX11_led_21 ?_
  refine z_is5 eX11_led_22 (Nat.ne_of_beq_eq_false rfl) ?_
  exact hl _ (Or.inl ⟨hP2, rfl, rfl, rfl, rfl⟩) hP2 (M 11).toNat (0, -1) _ (by omega) rfl rfl _ (by omega)
