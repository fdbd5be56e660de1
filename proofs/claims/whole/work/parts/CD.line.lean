/-! Any line of the coast. -/
theorem qhas_len {T : Int → Int} {e b : Int} {w v : List Int} (h : qhas T e b w) (hl : w.length ≠ v.length) : ¬ qhas T e b v := fun z => by
  have h1 := h.1
  have h2 := z.1
  omega
theorem qMemberLine_7 {T : Int → Int} {e beg a : Int} {M : Int → Int} (h : M 3 = 7) (hb : 0 ≤ beg) : (qMemberLine T e M beg a).2.2 = beg := by
  unfold qMemberLine
  dsimp only
  rw [if_pos h, qAfter_x (f := beg) (by omega), qSeats_x (f := beg) (by omega)]
theorem qMotionLine_8 {T : Int → Int} {e beg a : Int} {M : Int → Int} (h : M 4 = 8) (hb : 0 ≤ beg) : (qMotionLine T e M beg a).2.2 = beg := by
  unfold qMotionLine
  dsimp only
  rw [if_pos h, qAfter_x (f := beg) (by omega), qAfter_x (f := beg) (by omega), qAfter_x (f := beg) (by omega), qFor_x (f := beg) (by omega)]
theorem c_X0_readLine {G : zG} {lay : zLay} {s C0 : zMem} {nx x e a : Int} {T M : Int → Int} (hT : TopL lay x) (hX : TxC x s 274 T e) (ha : 0 ≤ a ∧ a ≤ e) (hN : CoN s 276 M) (hM : zOC M) (hS : TxS lay C0)  : zMM G 10 KX0_readLine [zP (x + 273)] lay (tC x (zTk s 274 T e a (-1)) C0) nx (0, 0) (zZ' (some (zI (zbi ((qCoastLine T e M a).2.2 = -1)))) (zRdC s T e (qCoastLine T e M a)) lay C0 nx x) := by
  refine z_met' (L := [zP (x + 273)]) gX0_readLine.1 rfl rfl (Nat.le_of_ble_eq_true rfl) rfl ?_
  have hA := CxAt
  have hD := isCo.draft
  have hx := hT.1
  have hne : x + 273 ≠ -1 := by omega
  have he := hX.e0
  have hI := hM.I
  have hm3 := hI.m3
  have hm4 := hI.m4
  have hbd := qskip_bd (T := T) ha.2
  have n3 : zTk s 274 T e a (-1) 276 1 = M 3 := by rw [zTk_o (by decide)]; exact hN.n3
  have n4 : zTk s 274 T e a (-1) (276 + 8) 0 = M 4 := by rw [zTk_o (by decide)]; exact hN.mo.1
  obtain ⟨Lc, hLc⟩ : ∃ Lc, qCoastLine T e M a = Lc := ⟨_, rfl⟩
  have hL : Lc = qCoastLine T e M a := hLc.symm
  dsimp only [qCoastLine] at hL
  rw [hLc]
  refine z_al0 eX0_readLine_0 hne ?_
  first | refine z_ta0 lX0_12 eX0_readLine_1 rfl hT hA (by decide) rfl rfl ?_ | refine z_ta lX0_12 eX0_readLine_1 rfl hT hA ⟨by decide, by decide⟩ rfl rfl ?_
  first | rw [zTk_o (by decide), show s (273 + 3) 1 = M 3 from hN.n3] | rw [zTk_o (by decide), show s (273 + 3 + 8) 0 = M 4 from hN.mo.1] | skip
  refine z_ldcS (t := 0) eX0_readLine_4 rfl rfl rfl (by rw [(hS 0 _ rfl).1]) ?_
  refine z_V1 eX0_readLine_6 vX0_49 rfl rfl (Nat.le_of_ble_eq_true rfl) (Nat.le_of_ble_eq_true rfl) ((WdAt.a).L0 hT (by decide)) (c_X10_atWord hT hX ⟨by omega, by omega⟩ hS (t := 0) (wd := qw_member) (n := 6) rfl rfl (by decide)) ?_
  first | rw [zTk_o (by decide), show s (273 + 3) 1 = M 3 from hN.n3] | rw [zTk_o (by decide), show s (273 + 3 + 8) 0 = M 4 from hN.mo.1] | skip
  refine z_ifb_eq (tgt := 39) eX0_readLine_9 rfl (fun h9 => ?_) (fun h9 => ?_)
  · rw [zif_f h9] at hL
    refine z_al0 eX0_readLine_39 hne ?_
    first | refine z_ta0 lX0_12 eX0_readLine_40 rfl hT hA (by decide) rfl rfl ?_ | refine z_ta lX0_12 eX0_readLine_40 rfl hT hA ⟨by decide, by decide⟩ rfl rfl ?_
    first | rw [zTk_o (by decide), show s (273 + 3) 1 = M 3 from hN.n3] | rw [zTk_o (by decide), show s (273 + 3 + 8) 0 = M 4 from hN.mo.1] | skip
    refine z_ldcS (t := 5) eX0_readLine_43 rfl rfl rfl (by rw [(hS 5 _ rfl).1]) ?_
    refine z_V1 eX0_readLine_45 vX0_49 rfl rfl (Nat.le_of_ble_eq_true rfl) (Nat.le_of_ble_eq_true rfl) ((WdAt.a).L0 hT (by decide)) (c_X10_atWord hT hX ⟨by omega, by omega⟩ hS (t := 5) (wd := qw_motion) (n := 6) rfl rfl (by decide)) ?_
    first | rw [zTk_o (by decide), show s (273 + 3) 1 = M 3 from hN.n3] | rw [zTk_o (by decide), show s (273 + 3 + 8) 0 = M 4 from hN.mo.1] | skip
    refine z_ifb_eq (tgt := 81) eX0_readLine_48 rfl (fun h48 => ?_) (fun h48 => ?_)
    · rw [zif_f h48] at hL
      refine z_al0 eX0_readLine_81 hne ?_
      first | refine z_ta0 lX0_12 eX0_readLine_82 rfl hT hA (by decide) rfl rfl ?_ | refine z_ta lX0_12 eX0_readLine_82 rfl hT hA ⟨by decide, by decide⟩ rfl rfl ?_
      first | rw [zTk_o (by decide), show s (273 + 3) 1 = M 3 from hN.n3] | rw [zTk_o (by decide), show s (273 + 3 + 8) 0 = M 4 from hN.mo.1] | skip
      refine z_ldcS (t := 10) eX0_readLine_85 rfl rfl rfl (by rw [(hS 10 _ rfl).1]) ?_
      refine z_V1 eX0_readLine_87 vX0_76 rfl rfl (Nat.le_of_ble_eq_true rfl) (Nat.le_of_ble_eq_true rfl) ((WdAt.a).L0 hT (by decide)) (c_X10_takeWord hT hX ⟨by omega, by omega⟩ hS (t := 10) (wd := qw_sky) (n := 3) rfl rfl (by decide)) ?_
      first | rw [zTk_o (by decide), show s (273 + 3) 1 = M 3 from hN.n3] | rw [zTk_o (by decide), show s (273 + 3 + 8) 0 = M 4 from hN.mo.1] | skip
      refine z_ifk_eq (tgt := 98) eX0_readLine_90 rfl (fun h90 => ?_) (fun h90 => ?_)
      · rw [zif_f h90] at hL
        refine z_al0 eX0_readLine_98 hne ?_
        first | refine z_ta0 lX0_12 eX0_readLine_99 rfl hT hA (by decide) rfl rfl ?_ | refine z_ta lX0_12 eX0_readLine_99 rfl hT hA ⟨by decide, by decide⟩ rfl rfl ?_
        first | rw [zTk_o (by decide), show s (273 + 3) 1 = M 3 from hN.n3] | rw [zTk_o (by decide), show s (273 + 3 + 8) 0 = M 4 from hN.mo.1] | skip
        refine z_ldcS (t := 16) eX0_readLine_102 rfl rfl rfl (by rw [(hS 16 _ rfl).1]) ?_
        refine z_V1 eX0_readLine_104 vX0_76 rfl rfl (Nat.le_of_ble_eq_true rfl) (Nat.le_of_ble_eq_true rfl) ((WdAt.a).L0 hT (by decide)) (c_X10_takeWord hT hX ⟨by omega, by omega⟩ hS (t := 16) (wd := qw_now) (n := 3) rfl rfl (by decide)) ?_
        first | rw [zTk_o (by decide), show s (273 + 3) 1 = M 3 from hN.n3] | rw [zTk_o (by decide), show s (273 + 3 + 8) 0 = M 4 from hN.mo.1] | skip
        refine z_ifk_eq (tgt := 144) eX0_readLine_107 rfl (fun h107 => ?_) (fun h107 => ?_)
        · rw [zif_f h107] at hL
          refine z_al0 eX0_readLine_144 hne ?_
          first | refine z_ta0 lX0_12 eX0_readLine_145 rfl hT hA (by decide) rfl rfl ?_ | refine z_ta lX0_12 eX0_readLine_145 rfl hT hA ⟨by decide, by decide⟩ rfl rfl ?_
          first | rw [zTk_o (by decide), show s (273 + 3) 1 = M 3 from hN.n3] | rw [zTk_o (by decide), show s (273 + 3 + 8) 0 = M 4 from hN.mo.1] | skip
          refine z_ldcS (t := 17) eX0_readLine_148 rfl rfl rfl (by rw [(hS 17 _ rfl).1]) ?_
          refine z_V1 eX0_readLine_150 vX0_76 rfl rfl (Nat.le_of_ble_eq_true rfl) (Nat.le_of_ble_eq_true rfl) ((WdAt.a).L0 hT (by decide)) (c_X10_takeWord hT hX ⟨by omega, by omega⟩ hS (t := 17) (wd := qw_place) (n := 5) rfl rfl (by decide)) ?_
          first | rw [zTk_o (by decide), show s (273 + 3) 1 = M 3 from hN.n3] | rw [zTk_o (by decide), show s (273 + 3 + 8) 0 = M 4 from hN.mo.1] | skip
          refine z_ifk_eq (tgt := 161) eX0_readLine_153 rfl (fun h153 => ?_) (fun h153 => ?_)
          · rw [zif_f h153] at hL
            refine z_al0 eX0_readLine_161 hne ?_
            first | refine z_ta0 lX0_12 eX0_readLine_162 rfl hT hA (by decide) rfl rfl ?_ | refine z_ta lX0_12 eX0_readLine_162 rfl hT hA ⟨by decide, by decide⟩ rfl rfl ?_
            first | rw [zTk_o (by decide), show s (273 + 3) 1 = M 3 from hN.n3] | rw [zTk_o (by decide), show s (273 + 3 + 8) 0 = M 4 from hN.mo.1] | skip
            refine z_ldcS (t := 19) eX0_readLine_165 rfl rfl rfl (by rw [(hS 19 _ rfl).1]) ?_
            refine z_V1 eX0_readLine_167 vX0_76 rfl rfl (Nat.le_of_ble_eq_true rfl) (Nat.le_of_ble_eq_true rfl) ((WdAt.a).L0 hT (by decide)) (c_X10_takeWord hT hX ⟨by omega, by omega⟩ hS (t := 19) (wd := qw_paper) (n := 5) rfl rfl (by decide)) ?_
            first | rw [zTk_o (by decide), show s (273 + 3) 1 = M 3 from hN.n3] | rw [zTk_o (by decide), show s (273 + 3 + 8) 0 = M 4 from hN.mo.1] | skip
            refine z_ifk_eq (tgt := 178) eX0_readLine_170 rfl (fun h170 => ?_) (fun h170 => ?_)
            · rw [zif_f h170] at hL
              refine z_al0 eX0_readLine_178 hne ?_
              refine z_V0z eX0_readLine_179 vX0_106 rfl rfl (Nat.le_of_ble_eq_true rfl) (Nat.le_of_ble_eq_true rfl) ((hA).L0 hT (by decide)) (c_X0_readSetting hT hX ha hN hM hS) (fun s179 hs179 => ?_)
              first | rw [zTk_o (by decide), show s (273 + 3) 1 = M 3 from hN.n3] | rw [zTk_o (by decide), show s (273 + 3 + 8) 0 = M 4 from hN.mo.1] | skip
              refine z_zreturn eX0_readLine_182 rfl (by first | exact Or.inl rfl | exact Or.inr rfl | exact zbi_01 _ | assumption | omega) ?_
              rw [show Lc = qSetL T e M (qscan qbl T e a) from hL]; exact zZe hs179 rfl
            · have hw170 := qhas_pos (wd := qw_paper) (n := 5) h170 rfl (by decide) ⟨by omega, by omega⟩
              rw [zif_f (qhas_len h170 (by decide)), zif_f (qhas_len h170 (by decide)), zif_f (qhas_len h170 (by decide)), zif_t h170] at hL
              refine z_al0 eX0_readLine_173 hne ?_
              refine z_V0z eX0_readLine_174 vX0_103 rfl rfl (Nat.le_of_ble_eq_true rfl) (Nat.le_of_ble_eq_true rfl) ((hA).L0 hT (by decide)) (c_X0_readPaper hT hX ⟨by omega, by omega⟩ hN hM hS) (fun s174 hs174 => ?_)
              first | rw [zTk_o (by decide), show s (273 + 3) 1 = M 3 from hN.n3] | rw [zTk_o (by decide), show s (273 + 3 + 8) 0 = M 4 from hN.mo.1] | skip
              refine z_zreturn eX0_readLine_177 rfl (by first | exact Or.inl rfl | exact Or.inr rfl | exact zbi_01 _ | assumption | omega) ?_
              rw [hL]; exact zZe hs174 rfl
          · have hw153 := qhas_pos (wd := qw_place) (n := 5) h153 rfl (by decide) ⟨by omega, by omega⟩
            rw [zif_t h153] at hL
            refine z_al0 eX0_readLine_156 hne ?_
            refine z_V0z eX0_readLine_157 vX0_98 rfl rfl (Nat.le_of_ble_eq_true rfl) (Nat.le_of_ble_eq_true rfl) ((hA).L0 hT (by decide)) (c_X0_readPlace hT hX ⟨by omega, by omega⟩ hN hM hS) (fun s157 hs157 => ?_)
            first | rw [zTk_o (by decide), show s (273 + 3) 1 = M 3 from hN.n3] | rw [zTk_o (by decide), show s (273 + 3 + 8) 0 = M 4 from hN.mo.1] | skip
            refine z_zreturn eX0_readLine_160 rfl (by first | exact Or.inl rfl | exact Or.inr rfl | exact zbi_01 _ | assumption | omega) ?_
            rw [hL]; exact zZe hs157 rfl
        · have hw107 := qhas_pos (wd := qw_now) (n := 3) h107 rfl (by decide) ⟨by omega, by omega⟩
          rw [zif_t h107] at hL
          refine z_al0 eX0_readLine_110 hne ?_
          first | refine z_ta0 lX0_21 eX0_readLine_111 rfl hT hA (by decide) rfl rfl ?_ | refine z_ta lX0_21 eX0_readLine_111 rfl hT hA ⟨by decide, by decide⟩ rfl rfl ?_
          first | rw [zTk_o (by decide), show s (273 + 3) 1 = M 3 from hN.n3] | rw [zTk_o (by decide), show s (273 + 3 + 8) 0 = M 4 from hN.mo.1] | skip
          first | refine z_ta0 lX0_84 eX0_readLine_114 rfl hT hD (by decide) rfl rfl ?_ | refine z_ta lX0_84 eX0_readLine_114 rfl hT hD ⟨by decide, by decide⟩ rfl rfl ?_
          first | rw [zTk_o (by decide), show s (273 + 3) 1 = M 3 from hN.n3] | rw [zTk_o (by decide), show s (273 + 3 + 8) 0 = M 4 from hN.mo.1] | skip
          refine z_al0 eX0_readLine_117 hne ?_
          refine z_tks eX0_readLine_118 vX0_88 rfl rfl (Nat.le_of_ble_eq_true rfl) (Nat.le_of_ble_eq_true rfl) hT hX hS ⟨by omega, by omega⟩ (fun F118 hF118 hG118 hB118 hP118 => ?_) (fun F118 hF118 hG118 hB118 => ?_)
          · first | refine z_tp0 (j := 0) lX0_92 eX0_readLine_121 rfl hT hD.we (by decide) rfl rfl rfl ?_ | refine z_tp (j := 0) lX0_92 eX0_readLine_121 rfl hT hD.we ⟨by decide, by decide⟩ rfl rfl rfl ?_
            rw [zTk_so (by decide)]
            rw [hF118, if_pos hG118] at hL
            refine z_al0 eX0_readLine_124 hne ?_
            first | refine z_ta0 lX0_21 eX0_readLine_125 rfl hT hA (by decide) rfl rfl ?_ | refine z_ta lX0_21 eX0_readLine_125 rfl hT hA ⟨by decide, by decide⟩ rfl rfl ?_
            first | rw [zTk_o (by decide), zset_eq] | skip
            first | refine z_ta0 lX0_84 eX0_readLine_128 rfl hT hD (by decide) rfl rfl ?_ | refine z_ta lX0_84 eX0_readLine_128 rfl hT hD ⟨by decide, by decide⟩ rfl rfl ?_
            first | rw [zTk_o (by decide), zset_eq] | skip
            first | refine z_tg0 (j := 0) lX0_92 eX0_readLine_131 rfl hT hD.we (by decide) rfl rfl rfl ?_ | refine z_tg (j := 0) lX0_92 eX0_readLine_131 rfl hT hD.we ⟨by decide, by decide⟩ rfl rfl rfl ?_
            first | rw [zTk_o (by decide), zset_eq] | skip
            refine z_iconst eX0_readLine_134 ?_
            refine z_icmp_eq (tgt := 142) eX0_readLine_135 rfl ⟨⟨by omega, by omega⟩, ⟨by omega, by omega⟩⟩ (fun h135 => (by exfalso; omega)) (fun h135 => ?_)
            refine z_iconst eX0_readLine_138 ?_
            refine z_goto eX0_readLine_139 (tgt := 143) rfl ?_
            refine z_zreturn eX0_readLine_143 rfl (by first | exact Or.inl rfl | exact Or.inr rfl | exact zbi_01 _ | assumption | omega) ?_
            rw [hL]; exact zRdt hG118 rfl (zO18 (by decide)) (by rw [zset_o (by decide)]) (hN.wea hI ((zOut.refl _ _ _).set ⟨by omega, by omega⟩) (fun j hj => zput_ne (by omega)) (hN.we.fld (by omega)))
          · first | refine z_tp0 (j := 0) lX0_92 eX0_readLine_121 rfl hT hD.we (by decide) rfl rfl rfl ?_ | refine z_tp (j := 0) lX0_92 eX0_readLine_121 rfl hT hD.we ⟨by decide, by decide⟩ rfl rfl rfl ?_
            rw [zTk_so (by decide)]
            rw [hF118, if_neg (by omega)] at hL
            refine z_al0 eX0_readLine_124 hne ?_
            first | refine z_ta0 lX0_21 eX0_readLine_125 rfl hT hA (by decide) rfl rfl ?_ | refine z_ta lX0_21 eX0_readLine_125 rfl hT hA ⟨by decide, by decide⟩ rfl rfl ?_
            first | rw [zTk_o (by decide), zset_eq] | skip
            first | refine z_ta0 lX0_84 eX0_readLine_128 rfl hT hD (by decide) rfl rfl ?_ | refine z_ta lX0_84 eX0_readLine_128 rfl hT hD ⟨by decide, by decide⟩ rfl rfl ?_
            first | rw [zTk_o (by decide), zset_eq] | skip
            first | refine z_tg0 (j := 0) lX0_92 eX0_readLine_131 rfl hT hD.we (by decide) rfl rfl rfl ?_ | refine z_tg (j := 0) lX0_92 eX0_readLine_131 rfl hT hD.we ⟨by decide, by decide⟩ rfl rfl rfl ?_
            first | rw [zTk_o (by decide), zset_eq] | skip
            refine z_iconst eX0_readLine_134 ?_
            refine z_icmp_eq (tgt := 142) eX0_readLine_135 rfl ⟨⟨by omega, by omega⟩, ⟨by omega, by omega⟩⟩ (fun h135 => ?_) (fun h135 => (by exfalso; omega))
            refine z_iconst eX0_readLine_142 ?_
            refine z_zreturn eX0_readLine_143 rfl (by first | exact Or.inl rfl | exact Or.inr rfl | exact zbi_01 _ | assumption | omega) ?_
            rw [hL]; exact zRdf rfl hB118 (zO18 (by decide))
      · have hw90 := qhas_pos (wd := qw_sky) (n := 3) h90 rfl (by decide) ⟨by omega, by omega⟩
        rw [zif_t h90] at hL
        refine z_al0 eX0_readLine_93 hne ?_
        refine z_V0z eX0_readLine_94 vX0_79 rfl rfl (Nat.le_of_ble_eq_true rfl) (Nat.le_of_ble_eq_true rfl) ((hA).L0 hT (by decide)) (c_X0_readSky hT hX ⟨by omega, by omega⟩ hN hM hS) (fun s94 hs94 => ?_)
        first | rw [zTk_o (by decide), show s (273 + 3) 1 = M 3 from hN.n3] | rw [zTk_o (by decide), show s (273 + 3 + 8) 0 = M 4 from hN.mo.1] | skip
        refine z_zreturn eX0_readLine_97 rfl (by first | exact Or.inl rfl | exact Or.inr rfl | exact zbi_01 _ | assumption | omega) ?_
        rw [hL]; exact zZe hs94 rfl
    · rw [zif_t h48] at hL
      refine z_al0 eX0_readLine_51 hne ?_
      first | refine z_ta0 lX0_21 eX0_readLine_52 rfl hT hA (by decide) rfl rfl ?_ | refine z_ta lX0_21 eX0_readLine_52 rfl hT hA ⟨by decide, by decide⟩ rfl rfl ?_
      first | rw [zTk_o (by decide), show s (273 + 3) 1 = M 3 from hN.n3] | rw [zTk_o (by decide), show s (273 + 3 + 8) 0 = M 4 from hN.mo.1] | skip
      first | refine z_ta0 lX0_62 eX0_readLine_55 rfl hT hD (by decide) rfl rfl ?_ | refine z_ta lX0_62 eX0_readLine_55 rfl hT hD ⟨by decide, by decide⟩ rfl rfl ?_
      first | rw [zTk_o (by decide), show s (273 + 3) 1 = M 3 from hN.n3] | rw [zTk_o (by decide), show s (273 + 3 + 8) 0 = M 4 from hN.mo.1] | skip
      first | refine z_tg0 (j := 0) lX0_66 eX0_readLine_58 rfl hT hD.mo (by decide) rfl rfl rfl ?_ | refine z_tg (j := 0) lX0_66 eX0_readLine_58 rfl hT hD.mo ⟨by decide, by decide⟩ rfl rfl rfl ?_
      first | rw [zTk_o (by decide), show s (273 + 3) 1 = M 3 from hN.n3] | rw [zTk_o (by decide), show s (273 + 3 + 8) 0 = M 4 from hN.mo.1] | skip
      refine z_bipush eX0_readLine_61 (by decide) ?_
      refine z_icmp_ge (tgt := 73) eX0_readLine_63 rfl ⟨⟨by omega, by omega⟩, ⟨by omega, by omega⟩⟩ (fun h63 => ?_) (fun h63 => ?_)
      · refine z_al0 eX0_readLine_73 hne ?_
        first | refine z_ta0 lX0_12 eX0_readLine_74 rfl hT hA (by decide) rfl rfl ?_ | refine z_ta lX0_12 eX0_readLine_74 rfl hT hA ⟨by decide, by decide⟩ rfl rfl ?_
        first | rw [zTk_o (by decide), show s (273 + 3) 1 = M 3 from hN.n3] | rw [zTk_o (by decide), show s (273 + 3 + 8) 0 = M 4 from hN.mo.1] | skip
        refine z_V0 eX0_readLine_77 vX0_44 rfl rfl (Nat.le_of_ble_eq_true rfl) (Nat.le_of_ble_eq_true rfl) ((WdAt.a).L0 hT (by decide)) (c_X10_fail hT hX ⟨by omega, by omega⟩ (by decide)) ?_
        rw [if_pos rfl]
        first | rw [zTk_o (by decide), show s (273 + 3) 1 = M 3 from hN.n3] | rw [zTk_o (by decide), show s (273 + 3 + 8) 0 = M 4 from hN.mo.1] | skip
        refine z_zreturn eX0_readLine_80 rfl (by first | exact Or.inl rfl | exact Or.inr rfl | exact zbi_01 _ | assumption | omega) ?_
        first | (rw [hL]; exact zZe hs67 rfl) | exact zRdf (by rw [hL]; exact qMotionLine_8 (by omega) (by omega)) (by omega) (zOut.refl _ _ _)
      · refine z_al0 eX0_readLine_66 hne ?_
        refine z_V0z eX0_readLine_67 vX0_71 rfl rfl (Nat.le_of_ble_eq_true rfl) (Nat.le_of_ble_eq_true rfl) ((hA).L0 hT (by decide)) (c_X0_readMotion hT hX ha hN hM hS h48 (by omega)) (fun s67 hs67 => ?_)
        first | rw [zTk_o (by decide), show s (273 + 3) 1 = M 3 from hN.n3] | rw [zTk_o (by decide), show s (273 + 3 + 8) 0 = M 4 from hN.mo.1] | skip
        refine z_goto eX0_readLine_70 (tgt := 80) rfl ?_
        refine z_zreturn eX0_readLine_80 rfl (by first | exact Or.inl rfl | exact Or.inr rfl | exact zbi_01 _ | assumption | omega) ?_
        first | (rw [hL]; exact zZe hs67 rfl) | exact zRdf (by rw [hL]; exact qMotionLine_8 (by omega) (by omega)) (by omega) (zOut.refl _ _ _)
  · rw [zif_t h9] at hL
    refine z_al0 eX0_readLine_12 hne ?_
    first | refine z_ta0 lX0_21 eX0_readLine_13 rfl hT hA (by decide) rfl rfl ?_ | refine z_ta lX0_21 eX0_readLine_13 rfl hT hA ⟨by decide, by decide⟩ rfl rfl ?_
    first | rw [zTk_o (by decide), show s (273 + 3) 1 = M 3 from hN.n3] | rw [zTk_o (by decide), show s (273 + 3 + 8) 0 = M 4 from hN.mo.1] | skip
    first | refine z_tg0 (j := 1) lX0_53 eX0_readLine_16 rfl hT hD (by decide) rfl rfl rfl ?_ | refine z_tg (j := 1) lX0_53 eX0_readLine_16 rfl hT hD ⟨by decide, by decide⟩ rfl rfl rfl ?_
    first | rw [zTk_o (by decide), show s (273 + 3) 1 = M 3 from hN.n3] | rw [zTk_o (by decide), show s (273 + 3 + 8) 0 = M 4 from hN.mo.1] | skip
    refine z_bipush eX0_readLine_19 (by decide) ?_
    refine z_icmp_ge (tgt := 31) eX0_readLine_21 rfl ⟨⟨by omega, by omega⟩, ⟨by omega, by omega⟩⟩ (fun h21 => ?_) (fun h21 => ?_)
    · refine z_al0 eX0_readLine_31 hne ?_
      first | refine z_ta0 lX0_12 eX0_readLine_32 rfl hT hA (by decide) rfl rfl ?_ | refine z_ta lX0_12 eX0_readLine_32 rfl hT hA ⟨by decide, by decide⟩ rfl rfl ?_
      first | rw [zTk_o (by decide), show s (273 + 3) 1 = M 3 from hN.n3] | rw [zTk_o (by decide), show s (273 + 3 + 8) 0 = M 4 from hN.mo.1] | skip
      refine z_V0 eX0_readLine_35 vX0_44 rfl rfl (Nat.le_of_ble_eq_true rfl) (Nat.le_of_ble_eq_true rfl) ((WdAt.a).L0 hT (by decide)) (c_X10_fail hT hX ⟨by omega, by omega⟩ (by decide)) ?_
      rw [if_pos rfl]
      first | rw [zTk_o (by decide), show s (273 + 3) 1 = M 3 from hN.n3] | rw [zTk_o (by decide), show s (273 + 3 + 8) 0 = M 4 from hN.mo.1] | skip
      refine z_zreturn eX0_readLine_38 rfl (by first | exact Or.inl rfl | exact Or.inr rfl | exact zbi_01 _ | assumption | omega) ?_
      first | (rw [hL]; exact zZe hs25 rfl) | exact zRdf (by rw [hL]; exact qMemberLine_7 (by omega) (by omega)) (by omega) (zOut.refl _ _ _)
    · refine z_al0 eX0_readLine_24 hne ?_
      refine z_V0z eX0_readLine_25 vX0_57 rfl rfl (Nat.le_of_ble_eq_true rfl) (Nat.le_of_ble_eq_true rfl) ((hA).L0 hT (by decide)) (c_X0_readMember hT hX ha hN hM hS h9 (by omega)) (fun s25 hs25 => ?_)
      first | rw [zTk_o (by decide), show s (273 + 3) 1 = M 3 from hN.n3] | rw [zTk_o (by decide), show s (273 + 3 + 8) 0 = M 4 from hN.mo.1] | skip
      refine z_goto eX0_readLine_28 (tgt := 38) rfl ?_
      refine z_zreturn eX0_readLine_38 rfl (by first | exact Or.inl rfl | exact Or.inr rfl | exact zbi_01 _ | assumption | omega) ?_
      first | (rw [hL]; exact zZe hs25 rfl) | exact zRdf (by rw [hL]; exact qMemberLine_7 (by omega) (by omega)) (by omega) (zOut.refl _ _ _)
