/-! What a member, a motion, a row of the log has. -/
theorem qLkd_s {M : Int → Int} (p : Int) {n : Int} (hn : 0 ≤ n ∧ n ≤ 8) : qLkd M p n = zors (fun k => if zbit (M (74 + 5 * k + 3)) p = 1 then zshl 1 k else 0) n := by
  unfold qLkd
  refine zors_congr (fun t t0 t1 => ?_)
  rcases zbit_01 (M (74 + 5 * t + 3)) p with e | e
  · rw [e, if_neg (by decide), zshl_0i ⟨t0, by omega⟩]
  · rw [e, if_pos rfl]
noncomputable def qMemC (M : Int → Int) (p w : Int) : Int := if w < 4 then M (46 + 4 * p + w) else if w = 5 then zors (fun k => if zbit (M (74 + 5 * k + 3)) p = 1 then zshl 1 k else 0) (M 4) else if M (46 + 4 * p + 3) = 0 ∨ qSeatsOut M = 0 then 0 else 100 * M (46 + 4 * p + 1) / qSeatsOut M
theorem c_X11_member {G : zG} {lay : zLay} {σ C0 : zMem} {nx x : Int} (hT : TopL lay x) {p w : Int} {M : Int → Int} (hN : CoN σ (0 + 2) M) (hM : zOC M) (hp : zin p) (hw : zin w) : zMM G 8 KX11_member [zP (x + 0), zI p, zI w] lay (tC x σ C0) nx (2, 12) (zGd (0 ≤ p ∧ p < M 3) zEb lay (tC x σ C0) nx (zGd (0 ≤ w ∧ w ≤ 5) zEn lay (tC x σ C0) nx (zR (some (zI (qMemC M p w))) lay (tC x (σ) (C0)) nx))) := by
  refine z_met' (L := [zP (x + 0), zI p, zI w]) gX11_member.1 rfl rfl (Nat.le_of_ble_eq_true rfl) rfl ?_
  have hA := TpAt
  have hx := hT.1
  have hne : x + 0 ≠ -1 := by omega
  have hD := isCo.now
  obtain ⟨w1, w2⟩ := hw
  have hI := hM.I
  have hm3 := hI.m3
  have hm4 := hI.m4
  refine z_al0 eX11_member_0 hne ?_
  refine z_il1 eX11_member_1 ?_
  refine z_ndV1 (n := 1) eX11_member_2 vX11_131 rfl rfl (Nat.le_of_ble_eq_true rfl) (Nat.le_of_ble_eq_true rfl) (hA.L0 hT (by decide)) (c_X11_needMember hT hN hM.I (by assumption)) (fun hP2 => ?_) (fun hN2 => (by first | exact Or.inr ⟨(by first | assumption | exact ⟨by omega, by omega⟩ | omega), rfl, rfl, rfl, rfl⟩ | exact Or.inl ⟨(by first | assumption | exact ⟨by omega, by omega⟩ | omega), Or.inr ⟨(by first | assumption | exact ⟨by omega, by omega⟩ | omega), rfl, rfl, rfl, rfl⟩⟩))
  refine z_il2 eX11_member_5 ?_
  by_cases h6_0 : w = 0
  · refine z_tsIn (off := 38) (tgt := 44) eX11_member_6 ⟨by omega, by omega⟩ ⟨by omega, by omega⟩ (by rw [h6_0]; rfl) rfl ?_
    refine z_al0 eX11_member_44 hne ?_
    first | refine z_ta0 lX11_20 eX11_member_45 rfl hT hA (by decide) rfl rfl ?_ | refine z_ta lX11_20 eX11_member_45 rfl hT hA ⟨by decide, by decide⟩ rfl rfl ?_
    first | refine z_ta0 lX11_134 eX11_member_48 rfl hT hD (by decide) rfl rfl ?_ | refine z_ta lX11_134 eX11_member_48 rfl hT hD ⟨by decide, by decide⟩ rfl rfl ?_
    refine z_il1 eX11_member_51 ?_
    refine z_tl eX11_member_52 hT hD ⟨by decide, by decide⟩ rfl rfl ⟨by omega, by omega⟩ ?_
    rw [hN.pl p hP2.1 hP2.2]
    refine z_ireturn eX11_member_53 rfl ?_
    rw [h6_0]; exact Or.inl ⟨hP2, Or.inl ⟨⟨by decide, by decide⟩, rfl, rfl, rfl, rfl⟩⟩
  by_cases h6_1 : w = 1
  · refine z_tsIn (off := 48) (tgt := 54) eX11_member_6 ⟨by omega, by omega⟩ ⟨by omega, by omega⟩ (by rw [h6_1]; rfl) rfl ?_
    refine z_al0 eX11_member_54 hne ?_
    first | refine z_ta0 lX11_20 eX11_member_55 rfl hT hA (by decide) rfl rfl ?_ | refine z_ta lX11_20 eX11_member_55 rfl hT hA ⟨by decide, by decide⟩ rfl rfl ?_
    first | refine z_ta0 lX11_137 eX11_member_58 rfl hT hD (by decide) rfl rfl ?_ | refine z_ta lX11_137 eX11_member_58 rfl hT hD ⟨by decide, by decide⟩ rfl rfl ?_
    refine z_il1 eX11_member_61 ?_
    refine z_tl eX11_member_62 hT hD ⟨by decide, by decide⟩ rfl rfl ⟨by omega, by omega⟩ ?_
    rw [hN.se p hP2.1 hP2.2]
    refine z_ireturn eX11_member_63 rfl ?_
    rw [h6_1]; exact Or.inl ⟨hP2, Or.inl ⟨⟨by decide, by decide⟩, rfl, rfl, rfl, rfl⟩⟩
  by_cases h6_2 : w = 2
  · refine z_tsIn (off := 58) (tgt := 64) eX11_member_6 ⟨by omega, by omega⟩ ⟨by omega, by omega⟩ (by rw [h6_2]; rfl) rfl ?_
    refine z_al0 eX11_member_64 hne ?_
    first | refine z_ta0 lX11_20 eX11_member_65 rfl hT hA (by decide) rfl rfl ?_ | refine z_ta lX11_20 eX11_member_65 rfl hT hA ⟨by decide, by decide⟩ rfl rfl ?_
    first | refine z_tg0 (j := 4) lX11_140 eX11_member_68 rfl hT hD (by decide) rfl rfl rfl ?_ | refine z_tg (j := 4) lX11_140 eX11_member_68 rfl hT hD ⟨by decide, by decide⟩ rfl rfl rfl ?_
    rw [hN.ha]
    refine z_il1 eX11_member_71 ?_
    refine z_S2 eX11_member_72 vX11_143 rfl rfl (Nat.le_of_ble_eq_true rfl) (Nat.le_of_ble_eq_true rfl) (c_X11_bitOf hT ⟨by omega, by omega⟩) ?_
    rw [qHats_B hI hP2]
    refine z_ireturn eX11_member_75 rfl ?_
    rw [h6_2]; exact Or.inl ⟨hP2, Or.inl ⟨⟨by decide, by decide⟩, rfl, rfl, rfl, rfl⟩⟩
  by_cases h6_3 : w = 3
  · refine z_tsIn (off := 70) (tgt := 76) eX11_member_6 ⟨by omega, by omega⟩ ⟨by omega, by omega⟩ (by rw [h6_3]; rfl) rfl ?_
    refine z_al0 eX11_member_76 hne ?_
    first | refine z_ta0 lX11_20 eX11_member_77 rfl hT hA (by decide) rfl rfl ?_ | refine z_ta lX11_20 eX11_member_77 rfl hT hA ⟨by decide, by decide⟩ rfl rfl ?_
    first | refine z_tg0 (j := 5) lX11_147 eX11_member_80 rfl hT hD (by decide) rfl rfl rfl ?_ | refine z_tg (j := 5) lX11_147 eX11_member_80 rfl hT hD ⟨by decide, by decide⟩ rfl rfl rfl ?_
    rw [hN.ou]
    refine z_il1 eX11_member_83 ?_
    refine z_S2 eX11_member_84 vX11_143 rfl rfl (Nat.le_of_ble_eq_true rfl) (Nat.le_of_ble_eq_true rfl) (c_X11_bitOf hT ⟨by omega, by omega⟩) ?_
    rw [qOuts_bit hM.ol.1 hP2]
    refine z_ireturn eX11_member_87 rfl ?_
    rw [h6_3]; exact Or.inl ⟨hP2, Or.inl ⟨⟨by decide, by decide⟩, rfl, rfl, rfl, rfl⟩⟩
  by_cases h6_4 : w = 4
  · refine z_tsIn (off := 82) (tgt := 88) eX11_member_6 ⟨by omega, by omega⟩ ⟨by omega, by omega⟩ (by rw [h6_4]; rfl) rfl ?_
    refine z_al0 eX11_member_88 hne ?_
    first | refine z_ta0 lX11_20 eX11_member_89 rfl hT hA (by decide) rfl rfl ?_ | refine z_ta lX11_20 eX11_member_89 rfl hT hA ⟨by decide, by decide⟩ rfl rfl ?_
    refine z_il1 eX11_member_92 ?_
    refine z_V1 eX11_member_93 vX11_150 rfl rfl (Nat.le_of_ble_eq_true rfl) (Nat.le_of_ble_eq_true rfl) ((hD).L0 hT (by decide)) (c_X1_shareOf hT hD hN hM.ol.1 hP2) ?_
    refine z_ireturn eX11_member_96 rfl ?_
    rw [h6_4]; exact Or.inl ⟨hP2, Or.inl ⟨⟨by decide, by decide⟩, rfl, rfl, rfl, rfl⟩⟩
  by_cases h6_5 : w = 5
  · refine z_tsIn (off := 91) (tgt := 97) eX11_member_6 ⟨by omega, by omega⟩ ⟨by omega, by omega⟩ (by rw [h6_5]; rfl) rfl ?_
    refine z_al0 eX11_member_97 hne ?_
    first | refine z_ta0 lX11_20 eX11_member_98 rfl hT hA (by decide) rfl rfl ?_ | refine z_ta lX11_20 eX11_member_98 rfl hT hA ⟨by decide, by decide⟩ rfl rfl ?_
    first | refine z_ta0 lX11_154 eX11_member_101 rfl hT hD (by decide) rfl rfl ?_ | refine z_ta lX11_154 eX11_member_101 rfl hT hD ⟨by decide, by decide⟩ rfl rfl ?_
    refine z_il1 eX11_member_104 ?_
    refine z_V1 eX11_member_105 vX11_158 rfl rfl (Nat.le_of_ble_eq_true rfl) (Nat.le_of_ble_eq_true rfl) ((hD.mo).L0 hT (by decide)) (c_X6_thoseLiked hT hD.mo hN.mo hI ⟨hP2.1, by omega⟩) ?_
    rw [qLkd_s p hm4]
    refine z_ireturn eX11_member_108 rfl ?_
    rw [h6_5]; exact Or.inl ⟨hP2, Or.inl ⟨⟨by decide, by decide⟩, rfl, rfl, rfl, rfl⟩⟩
  refine z_tsOut (tgt := 109) eX11_member_6 ⟨by omega, by omega⟩ (by omega) rfl ?_
  exact z_throwN (sn := 46) rfl zth_163 rfl rfl eX11_member_109 eX11_member_112 eX11_member_113 eX11_member_115 eX11_member_118 (Nat.le_of_ble_eq_true rfl) ⟨(Nat.le_of_ble_eq_true rfl), (Nat.le_of_ble_eq_true rfl)⟩ (by first | exact Or.inr ⟨(by first | assumption | exact ⟨by omega, by omega⟩ | omega), rfl, rfl, rfl, rfl⟩ | exact Or.inl ⟨(by first | assumption | exact ⟨by omega, by omega⟩ | omega), Or.inr ⟨(by first | assumption | exact ⟨by omega, by omega⟩ | omega), rfl, rfl, rfl, rfl⟩⟩)
  
theorem c_X11_motion {G : zG} {lay : zLay} {σ C0 : zMem} {nx x : Int} (hT : TopL lay x) {k w : Int} {M : Int → Int} (hN : CoN σ (0 + 2) M) (hM : zOC M) (hk : zin k) (hw : zin w) : zMM G 8 KX11_motion [zP (x + 0), zI k, zI w] lay (tC x σ C0) nx (2, 12) (zGd (0 ≤ k ∧ k < M 4) zEb lay (tC x σ C0) nx (zGd (0 ≤ w ∧ w ≤ 5) zEn lay (tC x σ C0) nx (zR (some (zI (if w < 5 then M (74 + 5 * k + w) else qHourOf M k))) lay (tC x (σ) (C0)) nx))) := by
  refine z_met' (L := [zP (x + 0), zI k, zI w]) gX11_motion.1 rfl rfl (Nat.le_of_ble_eq_true rfl) rfl ?_
  have hA := TpAt
  have hx := hT.1
  have hne : x + 0 ≠ -1 := by omega
  have hD := isCo.now
  obtain ⟨w1, w2⟩ := hw
  have hI := hM.I
  have hm4 := hI.m4
  refine z_al0 eX11_motion_0 hne ?_
  refine z_il1 eX11_motion_1 ?_
  refine z_ndV1 (n := 1) eX11_motion_2 vX11_168 rfl rfl (Nat.le_of_ble_eq_true rfl) (Nat.le_of_ble_eq_true rfl) (hA.L0 hT (by decide)) (c_X11_needMotion hT hN hM (by assumption)) (fun hP2 => ?_) (fun hN2 => (by first | exact Or.inr ⟨(by first | assumption | exact ⟨by omega, by omega⟩ | omega), rfl, rfl, rfl, rfl⟩ | exact Or.inl ⟨(by first | assumption | exact ⟨by omega, by omega⟩ | omega), Or.inr ⟨(by first | assumption | exact ⟨by omega, by omega⟩ | omega), rfl, rfl, rfl, rfl⟩⟩))
  refine z_il2 eX11_motion_5 ?_
  by_cases h6_0 : w = 0
  · refine z_tsIn (off := 38) (tgt := 44) eX11_motion_6 ⟨by omega, by omega⟩ ⟨by omega, by omega⟩ (by rw [h6_0]; rfl) rfl ?_
    refine z_al0 eX11_motion_44 hne ?_
    first | refine z_ta0 lX11_20 eX11_motion_45 rfl hT hA (by decide) rfl rfl ?_ | refine z_ta lX11_20 eX11_motion_45 rfl hT hA ⟨by decide, by decide⟩ rfl rfl ?_
    first | refine z_ta0 lX11_154 eX11_motion_48 rfl hT hD (by decide) rfl rfl ?_ | refine z_ta lX11_154 eX11_motion_48 rfl hT hD ⟨by decide, by decide⟩ rfl rfl ?_
    first | refine z_ta0 lX11_171 eX11_motion_51 rfl hT hD.mo (by decide) rfl rfl ?_ | refine z_ta lX11_171 eX11_motion_51 rfl hT hD.mo ⟨by decide, by decide⟩ rfl rfl ?_
    refine z_il1 eX11_motion_54 ?_
    refine z_tl eX11_motion_55 hT hD.mo ⟨by decide, by decide⟩ rfl rfl ⟨by omega, by omega⟩ ?_
    rw [(hN.mo.2.1 k hP2.1 hP2.2).1]
    refine z_ireturn eX11_motion_56 rfl ?_
    rw [h6_0]; exact Or.inl ⟨hP2, Or.inl ⟨⟨by decide, by decide⟩, rfl, rfl, rfl, rfl⟩⟩
  by_cases h6_1 : w = 1
  · refine z_tsIn (off := 51) (tgt := 57) eX11_motion_6 ⟨by omega, by omega⟩ ⟨by omega, by omega⟩ (by rw [h6_1]; rfl) rfl ?_
    refine z_al0 eX11_motion_57 hne ?_
    first | refine z_ta0 lX11_20 eX11_motion_58 rfl hT hA (by decide) rfl rfl ?_ | refine z_ta lX11_20 eX11_motion_58 rfl hT hA ⟨by decide, by decide⟩ rfl rfl ?_
    first | refine z_ta0 lX11_154 eX11_motion_61 rfl hT hD (by decide) rfl rfl ?_ | refine z_ta lX11_154 eX11_motion_61 rfl hT hD ⟨by decide, by decide⟩ rfl rfl ?_
    first | refine z_ta0 lX11_174 eX11_motion_64 rfl hT hD.mo (by decide) rfl rfl ?_ | refine z_ta lX11_174 eX11_motion_64 rfl hT hD.mo ⟨by decide, by decide⟩ rfl rfl ?_
    refine z_il1 eX11_motion_67 ?_
    refine z_tl eX11_motion_68 hT hD.mo ⟨by decide, by decide⟩ rfl rfl ⟨by omega, by omega⟩ ?_
    rw [(hN.mo.2.1 k hP2.1 hP2.2).2.1]
    refine z_ireturn eX11_motion_69 rfl ?_
    rw [h6_1]; exact Or.inl ⟨hP2, Or.inl ⟨⟨by decide, by decide⟩, rfl, rfl, rfl, rfl⟩⟩
  by_cases h6_2 : w = 2
  · refine z_tsIn (off := 64) (tgt := 70) eX11_motion_6 ⟨by omega, by omega⟩ ⟨by omega, by omega⟩ (by rw [h6_2]; rfl) rfl ?_
    refine z_al0 eX11_motion_70 hne ?_
    first | refine z_ta0 lX11_20 eX11_motion_71 rfl hT hA (by decide) rfl rfl ?_ | refine z_ta lX11_20 eX11_motion_71 rfl hT hA ⟨by decide, by decide⟩ rfl rfl ?_
    first | refine z_ta0 lX11_154 eX11_motion_74 rfl hT hD (by decide) rfl rfl ?_ | refine z_ta lX11_154 eX11_motion_74 rfl hT hD ⟨by decide, by decide⟩ rfl rfl ?_
    first | refine z_ta0 lX11_177 eX11_motion_77 rfl hT hD.mo (by decide) rfl rfl ?_ | refine z_ta lX11_177 eX11_motion_77 rfl hT hD.mo ⟨by decide, by decide⟩ rfl rfl ?_
    refine z_il1 eX11_motion_80 ?_
    refine z_tl eX11_motion_81 hT hD.mo ⟨by decide, by decide⟩ rfl rfl ⟨by omega, by omega⟩ ?_
    rw [(hN.mo.2.1 k hP2.1 hP2.2).2.2.1]
    refine z_ireturn eX11_motion_82 rfl ?_
    rw [h6_2]; exact Or.inl ⟨hP2, Or.inl ⟨⟨by decide, by decide⟩, rfl, rfl, rfl, rfl⟩⟩
  by_cases h6_3 : w = 3
  · refine z_tsIn (off := 77) (tgt := 83) eX11_motion_6 ⟨by omega, by omega⟩ ⟨by omega, by omega⟩ (by rw [h6_3]; rfl) rfl ?_
    refine z_al0 eX11_motion_83 hne ?_
    first | refine z_ta0 lX11_20 eX11_motion_84 rfl hT hA (by decide) rfl rfl ?_ | refine z_ta lX11_20 eX11_motion_84 rfl hT hA ⟨by decide, by decide⟩ rfl rfl ?_
    first | refine z_ta0 lX11_154 eX11_motion_87 rfl hT hD (by decide) rfl rfl ?_ | refine z_ta lX11_154 eX11_motion_87 rfl hT hD ⟨by decide, by decide⟩ rfl rfl ?_
    first | refine z_ta0 lX11_180 eX11_motion_90 rfl hT hD.mo (by decide) rfl rfl ?_ | refine z_ta lX11_180 eX11_motion_90 rfl hT hD.mo ⟨by decide, by decide⟩ rfl rfl ?_
    refine z_il1 eX11_motion_93 ?_
    refine z_tl eX11_motion_94 hT hD.mo ⟨by decide, by decide⟩ rfl rfl ⟨by omega, by omega⟩ ?_
    rw [(hN.mo.2.1 k hP2.1 hP2.2).2.2.2.1]
    refine z_ireturn eX11_motion_95 rfl ?_
    rw [h6_3]; exact Or.inl ⟨hP2, Or.inl ⟨⟨by decide, by decide⟩, rfl, rfl, rfl, rfl⟩⟩
  by_cases h6_4 : w = 4
  · refine z_tsIn (off := 90) (tgt := 96) eX11_motion_6 ⟨by omega, by omega⟩ ⟨by omega, by omega⟩ (by rw [h6_4]; rfl) rfl ?_
    refine z_al0 eX11_motion_96 hne ?_
    first | refine z_ta0 lX11_20 eX11_motion_97 rfl hT hA (by decide) rfl rfl ?_ | refine z_ta lX11_20 eX11_motion_97 rfl hT hA ⟨by decide, by decide⟩ rfl rfl ?_
    first | refine z_ta0 lX11_154 eX11_motion_100 rfl hT hD (by decide) rfl rfl ?_ | refine z_ta lX11_154 eX11_motion_100 rfl hT hD ⟨by decide, by decide⟩ rfl rfl ?_
    first | refine z_ta0 lX11_183 eX11_motion_103 rfl hT hD.mo (by decide) rfl rfl ?_ | refine z_ta lX11_183 eX11_motion_103 rfl hT hD.mo ⟨by decide, by decide⟩ rfl rfl ?_
    refine z_il1 eX11_motion_106 ?_
    refine z_tl eX11_motion_107 hT hD.mo ⟨by decide, by decide⟩ rfl rfl ⟨by omega, by omega⟩ ?_
    rw [(hN.mo.2.1 k hP2.1 hP2.2).2.2.2.2]
    refine z_ireturn eX11_motion_108 rfl ?_
    rw [h6_4]; exact Or.inl ⟨hP2, Or.inl ⟨⟨by decide, by decide⟩, rfl, rfl, rfl, rfl⟩⟩
  by_cases h6_5 : w = 5
  · refine z_tsIn (off := 103) (tgt := 109) eX11_motion_6 ⟨by omega, by omega⟩ ⟨by omega, by omega⟩ (by rw [h6_5]; rfl) rfl ?_
    refine z_al0 eX11_motion_109 hne ?_
    first | refine z_ta0 lX11_20 eX11_motion_110 rfl hT hA (by decide) rfl rfl ?_ | refine z_ta lX11_20 eX11_motion_110 rfl hT hA ⟨by decide, by decide⟩ rfl rfl ?_
    first | refine z_ta0 lX11_154 eX11_motion_113 rfl hT hD (by decide) rfl rfl ?_ | refine z_ta lX11_154 eX11_motion_113 rfl hT hD ⟨by decide, by decide⟩ rfl rfl ?_
    refine z_il1 eX11_motion_116 ?_
    refine z_V1 eX11_motion_117 vX11_186 rfl rfl (Nat.le_of_ble_eq_true rfl) (Nat.le_of_ble_eq_true rfl) ((hD.mo).L0 hT (by decide)) (c_X6_hourOf hT hD.mo hN.mo hI ⟨by omega, by omega⟩) ?_
    refine z_ireturn eX11_motion_120 rfl ?_
    rw [h6_5]; exact Or.inl ⟨hP2, Or.inl ⟨⟨by decide, by decide⟩, rfl, rfl, rfl, rfl⟩⟩
  refine z_tsOut (tgt := 121) eX11_motion_6 ⟨by omega, by omega⟩ (by omega) rfl ?_
  exact z_throwN (sn := 48) rfl zth_163 rfl rfl eX11_motion_121 eX11_motion_124 eX11_motion_125 eX11_motion_127 eX11_motion_130 (Nat.le_of_ble_eq_true rfl) ⟨(Nat.le_of_ble_eq_true rfl), (Nat.le_of_ble_eq_true rfl)⟩ (by first | exact Or.inr ⟨(by first | assumption | exact ⟨by omega, by omega⟩ | omega), rfl, rfl, rfl, rfl⟩ | exact Or.inl ⟨(by first | assumption | exact ⟨by omega, by omega⟩ | omega), Or.inr ⟨(by first | assumption | exact ⟨by omega, by omega⟩ | omega), rfl, rfl, rfl, rfl⟩⟩)
  
theorem c_X11_log {G : zG} {lay : zLay} {σ C0 : zMem} {nx x : Int} (hT : TopL lay x) {a w : Int} {M : Int → Int} (hN : CoN σ (0 + 2) M) (hM : zOC M) (ha : zin a) (hw : zin w) : zMM G 7 KX11_log [zP (x + 0), zI a, zI w] lay (tC x σ C0) nx (1, 6) (zGd (0 ≤ w ∧ w ≤ 4) zEn lay (tC x σ C0) nx (zR (some (zI (if 0 ≤ a ∧ a ≤ M 11 - 1 then M (126 + 5 * a + w) else -1))) lay (tC x (σ) (C0)) nx)) := by
  refine z_met' (L := [zP (x + 0), zI a, zI w]) gX11_log.1 rfl rfl (Nat.le_of_ble_eq_true rfl) rfl ?_
  have hA := TpAt
  have hx := hT.1
  have hne : x + 0 ≠ -1 := by omega
  have hD := isCo.now
  have hw0 := hw
  obtain ⟨w1, w2⟩ := hw
  refine z_il2 eX11_log_0 ?_
  refine z_if_lt (tgt := 9) eX11_log_1 rfl ⟨by omega, by omega⟩ (fun h1 => ?_) (fun h1 => ?_)
  · exact z_throwNW (sn := 58) rfl zth_163 rfl rfl eX11_log_9 eX11_log_12 eX11_log_13 eX11_log_16 eX11_log_19 (Nat.le_of_ble_eq_true rfl) ⟨(Nat.le_of_ble_eq_true rfl), (Nat.le_of_ble_eq_true rfl)⟩ (by first | exact Or.inr ⟨(by first | assumption | exact ⟨by omega, by omega⟩ | omega), rfl, rfl, rfl, rfl⟩)
  · refine z_il2 eX11_log_4 ?_
    refine z_iconst eX11_log_5 ?_
    refine z_icmp_lt (tgt := 20) eX11_log_6 rfl ⟨⟨by omega, by omega⟩, ⟨by omega, by omega⟩⟩ (fun h6 => ?_) (fun h6 => ?_)
    · refine z_al0 eX11_log_20 hne ?_
      first | refine z_ta0 lX11_20 eX11_log_21 rfl hT hA (by decide) rfl rfl ?_ | refine z_ta lX11_20 eX11_log_21 rfl hT hA ⟨by decide, by decide⟩ rfl rfl ?_
      first | refine z_ta0 lX11_413 eX11_log_24 rfl hT hD (by decide) rfl rfl ?_ | refine z_ta lX11_413 eX11_log_24 rfl hT hD ⟨by decide, by decide⟩ rfl rfl ?_
      refine z_il1 eX11_log_27 ?_
      refine z_il2 eX11_log_28 ?_
      refine z_V2 eX11_log_29 vX11_420 rfl rfl (Nat.le_of_ble_eq_true rfl) (Nat.le_of_ble_eq_true rfl) ((hD.lo).L0 hT (by decide)) (c_X5_valueOf hT hD.lo hN.lo hM.I ha hw0) ?_
      refine z_ireturn eX11_log_32 rfl ?_
      refine Or.inl ⟨⟨by omega, by omega⟩, ?_⟩
      by_cases z : 0 ≤ a ∧ a ≤ M 11 - 1
      · rw [if_pos z, if_pos (show (0 ≤ a ∧ a < M 11) ∧ 0 ≤ w ∧ w < 5 by omega)]; exact ⟨rfl, rfl, rfl, rfl⟩
      · rw [if_neg z, if_neg (show ¬ ((0 ≤ a ∧ a < M 11) ∧ 0 ≤ w ∧ w < 5) by omega)]; exact ⟨rfl, rfl, rfl, rfl⟩
    · exact z_throwNW (sn := 58) rfl zth_163 rfl rfl eX11_log_9 eX11_log_12 eX11_log_13 eX11_log_16 eX11_log_19 (Nat.le_of_ble_eq_true rfl) ⟨(Nat.le_of_ble_eq_true rfl), (Nat.le_of_ble_eq_true rfl)⟩ (by first | exact Or.inr ⟨(by first | assumption | exact ⟨by omega, by omega⟩ | omega), rfl, rfl, rfl, rfl⟩)
