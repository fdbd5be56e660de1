/-! Settings of the coast. -/
theorem qhas_pos {T : Int → Int} {e a n : Int} {wd : List Int} (h : qhas T e (qscan qbl T e a) wd) (hn : (wd.length : Int) = n) (hn1 : 1 ≤ n) (ha : 0 ≤ a ∧ a ≤ e) : 0 ≤ qscan qbl T e a ∧ qscan qbl T e a + n ≤ e ∧ qscan qbl T e a < e ∧ a ≤ qscan qbl T e a := by
  have h1 := qskip_bd (T := T) ha.2
  have h2 := qhas_stop h hn hn1 h1.2
  omega
theorem qsgn_pos {T : Int → Int} {e a c : Int} (h : qscan qbl T e a < e ∧ T (qscan qbl T e a) = c) (ha : 0 ≤ a ∧ a ≤ e) : 0 ≤ qscan qbl T e a ∧ qscan qbl T e a + 1 ≤ e ∧ a ≤ qscan qbl T e a := by
  have h1 := qskip_bd (T := T) ha.2
  have h2 := h.1
  omega
/-- the settings of the coast -/
noncomputable def qSetL (T : Int → Int) (e : Int) (M : Int → Int) (b : Int) : qLn :=
  zif (qhas T e b qw_quorum) (qTells T e M 8 0 8 (b + 6) (-1)) (zif (qhas T e b qw_aye) (qTells T e M 9 1 20 (b + 3) (-1)) (zif (qhas T e b qw_wet) (qTells T e M 10 0 20 (b + 3) (-1)) (zif (qhas T e b qw_hour) (qTells T e M 6 0 11 (b + 4) (-1)) (zif (qhas T e b qw_day) (qTells T e M 7 0 999 (b + 3) (-1)) (M, b, b)))))
theorem zO18 {s : zMem} {o j v : Int} (h : 276 ≤ o ∧ o < 294) : zOut 276 18 s (zset s o j v) := (zOut.refl _ _ _).set ⟨by omega, by omega⟩
theorem c_X0_readSetting {G : zG} {lay : zLay} {s C0 : zMem} {nx x e a : Int} {T M : Int → Int} (hT : TopL lay x) (hX : TxC x s 274 T e) (ha : 0 ≤ a ∧ a ≤ e) (hN : CoN s 276 M) (hM : zOC M) (hS : TxS lay C0)  : zMM G 8 KX0_readSetting [zP (x + 273)] lay (tC x (zTk s 274 T e a (-1)) C0) nx (0, 0) (zZ' (some (zI (zbi ((qSetL T e M (qscan qbl T e a)).2.2 = -1)))) (zRdC s T e (qSetL T e M (qscan qbl T e a))) lay C0 nx x) := by
  refine z_met' (L := [zP (x + 273)]) gX0_readSetting.1 rfl rfl (Nat.le_of_ble_eq_true rfl) rfl ?_
  have hA := CxAt
  have hD := isCo.draft
  have hx := hT.1
  have hne : x + 273 ≠ -1 := by omega
  have he := hX.e0
  have hI := hM.I
  have hm3 := hI.m3
  have hm4 := hI.m4
  have hbd := qskip_bd (T := T) ha.2
  refine z_al0 eX0_readSetting_0 hne ?_
  first | refine z_ta0 lX0_12 eX0_readSetting_1 rfl hT hA (by decide) rfl rfl ?_ | refine z_ta lX0_12 eX0_readSetting_1 rfl hT hA ⟨by decide, by decide⟩ rfl rfl ?_
  first | rw [zTk_o (by decide), zset_eq] | skip
  refine z_ldcS (t := 20) eX0_readSetting_4 rfl rfl rfl (by rw [(hS 20 _ rfl).1]) ?_
  refine z_V1 eX0_readSetting_6 vX0_76 rfl rfl (Nat.le_of_ble_eq_true rfl) (Nat.le_of_ble_eq_true rfl) ((WdAt.a).L0 hT (by decide)) (c_X10_takeWord hT hX ⟨by omega, by omega⟩ hS (t := 20) (wd := qw_quorum) (n := 6) rfl rfl (by decide)) ?_
  first | rw [zTk_o (by decide), zset_eq] | skip
  refine z_ifk_eq (tgt := 46) eX0_readSetting_9 rfl (fun h9 => ?_) (fun h9 => ?_)
  · refine z_al0 eX0_readSetting_46 hne ?_
    first | refine z_ta0 lX0_12 eX0_readSetting_47 rfl hT hA (by decide) rfl rfl ?_ | refine z_ta lX0_12 eX0_readSetting_47 rfl hT hA ⟨by decide, by decide⟩ rfl rfl ?_
    first | rw [zTk_o (by decide), zset_eq] | skip
    refine z_ldcS (t := 21) eX0_readSetting_50 rfl rfl rfl (by rw [(hS 21 _ rfl).1]) ?_
    refine z_V1 eX0_readSetting_52 vX0_76 rfl rfl (Nat.le_of_ble_eq_true rfl) (Nat.le_of_ble_eq_true rfl) ((WdAt.a).L0 hT (by decide)) (c_X10_takeWord hT hX ⟨by omega, by omega⟩ hS (t := 21) (wd := qw_aye) (n := 3) rfl rfl (by decide)) ?_
    first | rw [zTk_o (by decide), zset_eq] | skip
    refine z_ifk_eq (tgt := 92) eX0_readSetting_55 rfl (fun h55 => ?_) (fun h55 => ?_)
    · refine z_al0 eX0_readSetting_92 hne ?_
      first | refine z_ta0 lX0_12 eX0_readSetting_93 rfl hT hA (by decide) rfl rfl ?_ | refine z_ta lX0_12 eX0_readSetting_93 rfl hT hA ⟨by decide, by decide⟩ rfl rfl ?_
      first | rw [zTk_o (by decide), zset_eq] | skip
      refine z_ldcS (t := 22) eX0_readSetting_96 rfl rfl rfl (by rw [(hS 22 _ rfl).1]) ?_
      refine z_V1 eX0_readSetting_98 vX0_76 rfl rfl (Nat.le_of_ble_eq_true rfl) (Nat.le_of_ble_eq_true rfl) ((WdAt.a).L0 hT (by decide)) (c_X10_takeWord hT hX ⟨by omega, by omega⟩ hS (t := 22) (wd := qw_wet) (n := 3) rfl rfl (by decide)) ?_
      first | rw [zTk_o (by decide), zset_eq] | skip
      refine z_ifk_eq (tgt := 138) eX0_readSetting_101 rfl (fun h101 => ?_) (fun h101 => ?_)
      · refine z_al0 eX0_readSetting_138 hne ?_
        first | refine z_ta0 lX0_12 eX0_readSetting_139 rfl hT hA (by decide) rfl rfl ?_ | refine z_ta lX0_12 eX0_readSetting_139 rfl hT hA ⟨by decide, by decide⟩ rfl rfl ?_
        first | rw [zTk_o (by decide), zset_eq] | skip
        refine z_ldcS (t := 23) eX0_readSetting_142 rfl rfl rfl (by rw [(hS 23 _ rfl).1]) ?_
        refine z_V1 eX0_readSetting_144 vX0_76 rfl rfl (Nat.le_of_ble_eq_true rfl) (Nat.le_of_ble_eq_true rfl) ((WdAt.a).L0 hT (by decide)) (c_X10_takeWord hT hX ⟨by omega, by omega⟩ hS (t := 23) (wd := qw_hour) (n := 4) rfl rfl (by decide)) ?_
        first | rw [zTk_o (by decide), zset_eq] | skip
        refine z_ifk_eq (tgt := 190) eX0_readSetting_147 rfl (fun h147 => ?_) (fun h147 => ?_)
        · refine z_al0 eX0_readSetting_190 hne ?_
          first | refine z_ta0 lX0_12 eX0_readSetting_191 rfl hT hA (by decide) rfl rfl ?_ | refine z_ta lX0_12 eX0_readSetting_191 rfl hT hA ⟨by decide, by decide⟩ rfl rfl ?_
          first | rw [zTk_o (by decide), zset_eq] | skip
          refine z_ldcS (t := 24) eX0_readSetting_194 rfl rfl rfl (by rw [(hS 24 _ rfl).1]) ?_
          refine z_V1 eX0_readSetting_196 vX0_76 rfl rfl (Nat.le_of_ble_eq_true rfl) (Nat.le_of_ble_eq_true rfl) ((WdAt.a).L0 hT (by decide)) (c_X10_takeWord hT hX ⟨by omega, by omega⟩ hS (t := 24) (wd := qw_day) (n := 3) rfl rfl (by decide)) ?_
          first | rw [zTk_o (by decide), zset_eq] | skip
          refine z_ifk_eq (tgt := 243) eX0_readSetting_199 rfl (fun h199 => ?_) (fun h199 => ?_)
          · refine z_al0 eX0_readSetting_243 hne ?_
            first | refine z_ta0 lX0_12 eX0_readSetting_244 rfl hT hA (by decide) rfl rfl ?_ | refine z_ta lX0_12 eX0_readSetting_244 rfl hT hA ⟨by decide, by decide⟩ rfl rfl ?_
            first | rw [zTk_o (by decide), zset_eq] | skip
            refine z_V0 eX0_readSetting_247 vX0_44 rfl rfl (Nat.le_of_ble_eq_true rfl) (Nat.le_of_ble_eq_true rfl) ((WdAt.a).L0 hT (by decide)) (c_X10_fail hT hX ⟨by omega, by omega⟩ (by decide)) ?_
            rw [if_pos rfl]
            first | rw [zTk_o (by decide), zset_eq] | skip
            refine z_zreturn eX0_readSetting_250 rfl (by first | exact Or.inl rfl | exact Or.inr rfl | exact zbi_01 _ | assumption | omega) ?_
            rw [show qSetL T e M (qscan qbl T e a) = (M, qscan qbl T e a, qscan qbl T e a) by unfold qSetL; rw [zif_f h9, zif_f h55, zif_f h101, zif_f h147, zif_f h199]]
            exact zRdf rfl (by omega) (zOut.refl _ _ _)
          · have hw199 := qhas_pos (wd := qw_day) (n := 3) h199 rfl (by decide) ⟨by omega, by omega⟩
            refine z_al0 eX0_readSetting_202 hne ?_
            first | refine z_ta0 lX0_21 eX0_readSetting_203 rfl hT hA (by decide) rfl rfl ?_ | refine z_ta lX0_21 eX0_readSetting_203 rfl hT hA ⟨by decide, by decide⟩ rfl rfl ?_
            first | rw [zTk_o (by decide), zset_eq] | skip
            first | refine z_ta0 lX0_84 eX0_readSetting_206 rfl hT hD (by decide) rfl rfl ?_ | refine z_ta lX0_84 eX0_readSetting_206 rfl hT hD ⟨by decide, by decide⟩ rfl rfl ?_
            first | rw [zTk_o (by decide), zset_eq] | skip
            refine z_al0 eX0_readSetting_209 hne ?_
            first | refine z_ta0 lX0_12 eX0_readSetting_210 rfl hT hA (by decide) rfl rfl ?_ | refine z_ta lX0_12 eX0_readSetting_210 rfl hT hA ⟨by decide, by decide⟩ rfl rfl ?_
            first | rw [zTk_o (by decide), zset_eq] | skip
            refine z_iconst eX0_readSetting_213 ?_
            refine z_sipush eX0_readSetting_214 (by decide) ?_
            refine z_tkn eX0_readSetting_217 vX0_111 rfl rfl (Nat.le_of_ble_eq_true rfl) (Nat.le_of_ble_eq_true rfl) hT hX ⟨by omega, by omega⟩ ⟨by omega, by omega⟩ ⟨by omega, by omega⟩ (fun F217 hF217 hG217 hB217 hP217 => ?_) (fun F217 hF217 hG217 hB217 => ?_)
            · first | refine z_tp0 (j := 2) lX0_132 eX0_readSetting_220 rfl hT hD.we (by decide) rfl rfl rfl ?_ | refine z_tp (j := 2) lX0_132 eX0_readSetting_220 rfl hT hD.we ⟨by decide, by decide⟩ rfl rfl rfl ?_
              rw [zTk_so (by decide)]
              refine z_al0 eX0_readSetting_223 hne ?_
              first | refine z_ta0 lX0_21 eX0_readSetting_224 rfl hT hA (by decide) rfl rfl ?_ | refine z_ta lX0_21 eX0_readSetting_224 rfl hT hA ⟨by decide, by decide⟩ rfl rfl ?_
              first | rw [zTk_o (by decide), zset_eq] | skip
              first | refine z_ta0 lX0_84 eX0_readSetting_227 rfl hT hD (by decide) rfl rfl ?_ | refine z_ta lX0_84 eX0_readSetting_227 rfl hT hD ⟨by decide, by decide⟩ rfl rfl ?_
              first | rw [zTk_o (by decide), zset_eq] | skip
              first | refine z_tg0 (j := 2) lX0_132 eX0_readSetting_230 rfl hT hD.we (by decide) rfl rfl rfl ?_ | refine z_tg (j := 2) lX0_132 eX0_readSetting_230 rfl hT hD.we ⟨by decide, by decide⟩ rfl rfl rfl ?_
              first | rw [zTk_o (by decide), zset_eq] | skip
              refine z_iconst eX0_readSetting_233 ?_
              refine z_icmp_eq (tgt := 241) eX0_readSetting_234 rfl ⟨⟨by omega, by omega⟩, ⟨by omega, by omega⟩⟩ (fun h234 => (by exfalso; omega)) (fun h234 => ?_)
              refine z_iconst eX0_readSetting_237 ?_
              refine z_goto eX0_readSetting_238 (tgt := 242) rfl ?_
              refine z_zreturn eX0_readSetting_242 rfl (by first | exact Or.inl rfl | exact Or.inr rfl | exact zbi_01 _ | assumption | omega) ?_
              rw [show qSetL T e M (qscan qbl T e a) = (zput M 7 F217.1, F217.2) by unfold qSetL qTells; rw [zif_f h9, zif_f h55, zif_f h101, zif_f h147, zif_t h199, hF217, if_pos hG217]]
              exact zRdt hG217 rfl (zO18 (by decide)) (by rw [zset_o (by decide)]) (hN.wea hI ((zOut.refl _ _ _).set ⟨by omega, by omega⟩) (fun j hj => zput_ne (by omega)) (hN.we.fld (by omega)))
            · first | refine z_tp0 (j := 2) lX0_132 eX0_readSetting_220 rfl hT hD.we (by decide) rfl rfl rfl ?_ | refine z_tp (j := 2) lX0_132 eX0_readSetting_220 rfl hT hD.we ⟨by decide, by decide⟩ rfl rfl rfl ?_
              rw [zTk_so (by decide)]
              refine z_al0 eX0_readSetting_223 hne ?_
              first | refine z_ta0 lX0_21 eX0_readSetting_224 rfl hT hA (by decide) rfl rfl ?_ | refine z_ta lX0_21 eX0_readSetting_224 rfl hT hA ⟨by decide, by decide⟩ rfl rfl ?_
              first | rw [zTk_o (by decide), zset_eq] | skip
              first | refine z_ta0 lX0_84 eX0_readSetting_227 rfl hT hD (by decide) rfl rfl ?_ | refine z_ta lX0_84 eX0_readSetting_227 rfl hT hD ⟨by decide, by decide⟩ rfl rfl ?_
              first | rw [zTk_o (by decide), zset_eq] | skip
              first | refine z_tg0 (j := 2) lX0_132 eX0_readSetting_230 rfl hT hD.we (by decide) rfl rfl rfl ?_ | refine z_tg (j := 2) lX0_132 eX0_readSetting_230 rfl hT hD.we ⟨by decide, by decide⟩ rfl rfl rfl ?_
              first | rw [zTk_o (by decide), zset_eq] | skip
              refine z_iconst eX0_readSetting_233 ?_
              refine z_icmp_eq (tgt := 241) eX0_readSetting_234 rfl ⟨⟨by omega, by omega⟩, ⟨by omega, by omega⟩⟩ (fun h234 => ?_) (fun h234 => (by exfalso; omega))
              refine z_iconst eX0_readSetting_241 ?_
              refine z_zreturn eX0_readSetting_242 rfl (by first | exact Or.inl rfl | exact Or.inr rfl | exact zbi_01 _ | assumption | omega) ?_
              rw [show qSetL T e M (qscan qbl T e a) = (M, F217.2) by unfold qSetL qTells; rw [zif_f h9, zif_f h55, zif_f h101, zif_f h147, zif_t h199, hF217, if_neg (by omega)]]
              exact zRdf rfl hB217 (zO18 (by decide))
        · have hw147 := qhas_pos (wd := qw_hour) (n := 4) h147 rfl (by decide) ⟨by omega, by omega⟩
          refine z_al0 eX0_readSetting_150 hne ?_
          first | refine z_ta0 lX0_21 eX0_readSetting_151 rfl hT hA (by decide) rfl rfl ?_ | refine z_ta lX0_21 eX0_readSetting_151 rfl hT hA ⟨by decide, by decide⟩ rfl rfl ?_
          first | rw [zTk_o (by decide), zset_eq] | skip
          first | refine z_ta0 lX0_84 eX0_readSetting_154 rfl hT hD (by decide) rfl rfl ?_ | refine z_ta lX0_84 eX0_readSetting_154 rfl hT hD ⟨by decide, by decide⟩ rfl rfl ?_
          first | rw [zTk_o (by decide), zset_eq] | skip
          refine z_al0 eX0_readSetting_157 hne ?_
          first | refine z_ta0 lX0_12 eX0_readSetting_158 rfl hT hA (by decide) rfl rfl ?_ | refine z_ta lX0_12 eX0_readSetting_158 rfl hT hA ⟨by decide, by decide⟩ rfl rfl ?_
          first | rw [zTk_o (by decide), zset_eq] | skip
          refine z_iconst eX0_readSetting_161 ?_
          refine z_bipush eX0_readSetting_162 (by decide) ?_
          refine z_tkn eX0_readSetting_164 vX0_111 rfl rfl (Nat.le_of_ble_eq_true rfl) (Nat.le_of_ble_eq_true rfl) hT hX ⟨by omega, by omega⟩ ⟨by omega, by omega⟩ ⟨by omega, by omega⟩ (fun F164 hF164 hG164 hB164 hP164 => ?_) (fun F164 hF164 hG164 hB164 => ?_)
          · first | refine z_tp0 (j := 1) lX0_128 eX0_readSetting_167 rfl hT hD.we (by decide) rfl rfl rfl ?_ | refine z_tp (j := 1) lX0_128 eX0_readSetting_167 rfl hT hD.we ⟨by decide, by decide⟩ rfl rfl rfl ?_
            rw [zTk_so (by decide)]
            refine z_al0 eX0_readSetting_170 hne ?_
            first | refine z_ta0 lX0_21 eX0_readSetting_171 rfl hT hA (by decide) rfl rfl ?_ | refine z_ta lX0_21 eX0_readSetting_171 rfl hT hA ⟨by decide, by decide⟩ rfl rfl ?_
            first | rw [zTk_o (by decide), zset_eq] | skip
            first | refine z_ta0 lX0_84 eX0_readSetting_174 rfl hT hD (by decide) rfl rfl ?_ | refine z_ta lX0_84 eX0_readSetting_174 rfl hT hD ⟨by decide, by decide⟩ rfl rfl ?_
            first | rw [zTk_o (by decide), zset_eq] | skip
            first | refine z_tg0 (j := 1) lX0_128 eX0_readSetting_177 rfl hT hD.we (by decide) rfl rfl rfl ?_ | refine z_tg (j := 1) lX0_128 eX0_readSetting_177 rfl hT hD.we ⟨by decide, by decide⟩ rfl rfl rfl ?_
            first | rw [zTk_o (by decide), zset_eq] | skip
            refine z_iconst eX0_readSetting_180 ?_
            refine z_icmp_eq (tgt := 188) eX0_readSetting_181 rfl ⟨⟨by omega, by omega⟩, ⟨by omega, by omega⟩⟩ (fun h181 => (by exfalso; omega)) (fun h181 => ?_)
            refine z_iconst eX0_readSetting_184 ?_
            refine z_goto eX0_readSetting_185 (tgt := 189) rfl ?_
            refine z_zreturn eX0_readSetting_189 rfl (by first | exact Or.inl rfl | exact Or.inr rfl | exact zbi_01 _ | assumption | omega) ?_
            rw [show qSetL T e M (qscan qbl T e a) = (zput M 6 F164.1, F164.2) by unfold qSetL qTells; rw [zif_f h9, zif_f h55, zif_f h101, zif_t h147, hF164, if_pos hG164]]
            exact zRdt hG164 rfl (zO18 (by decide)) (by rw [zset_o (by decide)]) (hN.wea hI ((zOut.refl _ _ _).set ⟨by omega, by omega⟩) (fun j hj => zput_ne (by omega)) (hN.we.fld (by omega)))
          · first | refine z_tp0 (j := 1) lX0_128 eX0_readSetting_167 rfl hT hD.we (by decide) rfl rfl rfl ?_ | refine z_tp (j := 1) lX0_128 eX0_readSetting_167 rfl hT hD.we ⟨by decide, by decide⟩ rfl rfl rfl ?_
            rw [zTk_so (by decide)]
            refine z_al0 eX0_readSetting_170 hne ?_
            first | refine z_ta0 lX0_21 eX0_readSetting_171 rfl hT hA (by decide) rfl rfl ?_ | refine z_ta lX0_21 eX0_readSetting_171 rfl hT hA ⟨by decide, by decide⟩ rfl rfl ?_
            first | rw [zTk_o (by decide), zset_eq] | skip
            first | refine z_ta0 lX0_84 eX0_readSetting_174 rfl hT hD (by decide) rfl rfl ?_ | refine z_ta lX0_84 eX0_readSetting_174 rfl hT hD ⟨by decide, by decide⟩ rfl rfl ?_
            first | rw [zTk_o (by decide), zset_eq] | skip
            first | refine z_tg0 (j := 1) lX0_128 eX0_readSetting_177 rfl hT hD.we (by decide) rfl rfl rfl ?_ | refine z_tg (j := 1) lX0_128 eX0_readSetting_177 rfl hT hD.we ⟨by decide, by decide⟩ rfl rfl rfl ?_
            first | rw [zTk_o (by decide), zset_eq] | skip
            refine z_iconst eX0_readSetting_180 ?_
            refine z_icmp_eq (tgt := 188) eX0_readSetting_181 rfl ⟨⟨by omega, by omega⟩, ⟨by omega, by omega⟩⟩ (fun h181 => ?_) (fun h181 => (by exfalso; omega))
            refine z_iconst eX0_readSetting_188 ?_
            refine z_zreturn eX0_readSetting_189 rfl (by first | exact Or.inl rfl | exact Or.inr rfl | exact zbi_01 _ | assumption | omega) ?_
            rw [show qSetL T e M (qscan qbl T e a) = (M, F164.2) by unfold qSetL qTells; rw [zif_f h9, zif_f h55, zif_f h101, zif_t h147, hF164, if_neg (by omega)]]
            exact zRdf rfl hB164 (zO18 (by decide))
      · have hw101 := qhas_pos (wd := qw_wet) (n := 3) h101 rfl (by decide) ⟨by omega, by omega⟩
        refine z_al0 eX0_readSetting_104 hne ?_
        first | refine z_ta0 lX0_21 eX0_readSetting_105 rfl hT hA (by decide) rfl rfl ?_ | refine z_ta lX0_21 eX0_readSetting_105 rfl hT hA ⟨by decide, by decide⟩ rfl rfl ?_
        first | rw [zTk_o (by decide), zset_eq] | skip
        refine z_al0 eX0_readSetting_108 hne ?_
        first | refine z_ta0 lX0_12 eX0_readSetting_109 rfl hT hA (by decide) rfl rfl ?_ | refine z_ta lX0_12 eX0_readSetting_109 rfl hT hA ⟨by decide, by decide⟩ rfl rfl ?_
        first | rw [zTk_o (by decide), zset_eq] | skip
        refine z_iconst eX0_readSetting_112 ?_
        refine z_bipush eX0_readSetting_113 (by decide) ?_
        refine z_tkn eX0_readSetting_115 vX0_111 rfl rfl (Nat.le_of_ble_eq_true rfl) (Nat.le_of_ble_eq_true rfl) hT hX ⟨by omega, by omega⟩ ⟨by omega, by omega⟩ ⟨by omega, by omega⟩ (fun F115 hF115 hG115 hB115 hP115 => ?_) (fun F115 hF115 hG115 hB115 => ?_)
        · first | refine z_tp0 (j := 9) lX0_123 eX0_readSetting_118 rfl hT hD (by decide) rfl rfl rfl ?_ | refine z_tp (j := 9) lX0_123 eX0_readSetting_118 rfl hT hD ⟨by decide, by decide⟩ rfl rfl rfl ?_
          rw [zTk_so (by decide)]
          refine z_al0 eX0_readSetting_121 hne ?_
          first | refine z_ta0 lX0_21 eX0_readSetting_122 rfl hT hA (by decide) rfl rfl ?_ | refine z_ta lX0_21 eX0_readSetting_122 rfl hT hA ⟨by decide, by decide⟩ rfl rfl ?_
          first | rw [zTk_o (by decide), zset_eq] | skip
          first | refine z_tg0 (j := 9) lX0_123 eX0_readSetting_125 rfl hT hD (by decide) rfl rfl rfl ?_ | refine z_tg (j := 9) lX0_123 eX0_readSetting_125 rfl hT hD ⟨by decide, by decide⟩ rfl rfl rfl ?_
          first | rw [zTk_o (by decide), zset_eq] | skip
          refine z_iconst eX0_readSetting_128 ?_
          refine z_icmp_eq (tgt := 136) eX0_readSetting_129 rfl ⟨⟨by omega, by omega⟩, ⟨by omega, by omega⟩⟩ (fun h129 => (by exfalso; omega)) (fun h129 => ?_)
          refine z_iconst eX0_readSetting_132 ?_
          refine z_goto eX0_readSetting_133 (tgt := 137) rfl ?_
          refine z_zreturn eX0_readSetting_137 rfl (by first | exact Or.inl rfl | exact Or.inr rfl | exact zbi_01 _ | assumption | omega) ?_
          rw [show qSetL T e M (qscan qbl T e a) = (zput M 10 F115.1, F115.2) by unfold qSetL qTells; rw [zif_f h9, zif_f h55, zif_t h101, hF115, if_pos hG115]]
          exact zRdt hG115 rfl (zO18 (by decide)) (zset_f (by decide)) (hN.fld hI (by omega))
        · first | refine z_tp0 (j := 9) lX0_123 eX0_readSetting_118 rfl hT hD (by decide) rfl rfl rfl ?_ | refine z_tp (j := 9) lX0_123 eX0_readSetting_118 rfl hT hD ⟨by decide, by decide⟩ rfl rfl rfl ?_
          rw [zTk_so (by decide)]
          refine z_al0 eX0_readSetting_121 hne ?_
          first | refine z_ta0 lX0_21 eX0_readSetting_122 rfl hT hA (by decide) rfl rfl ?_ | refine z_ta lX0_21 eX0_readSetting_122 rfl hT hA ⟨by decide, by decide⟩ rfl rfl ?_
          first | rw [zTk_o (by decide), zset_eq] | skip
          first | refine z_tg0 (j := 9) lX0_123 eX0_readSetting_125 rfl hT hD (by decide) rfl rfl rfl ?_ | refine z_tg (j := 9) lX0_123 eX0_readSetting_125 rfl hT hD ⟨by decide, by decide⟩ rfl rfl rfl ?_
          first | rw [zTk_o (by decide), zset_eq] | skip
          refine z_iconst eX0_readSetting_128 ?_
          refine z_icmp_eq (tgt := 136) eX0_readSetting_129 rfl ⟨⟨by omega, by omega⟩, ⟨by omega, by omega⟩⟩ (fun h129 => ?_) (fun h129 => (by exfalso; omega))
          refine z_iconst eX0_readSetting_136 ?_
          refine z_zreturn eX0_readSetting_137 rfl (by first | exact Or.inl rfl | exact Or.inr rfl | exact zbi_01 _ | assumption | omega) ?_
          rw [show qSetL T e M (qscan qbl T e a) = (M, F115.2) by unfold qSetL qTells; rw [zif_f h9, zif_f h55, zif_t h101, hF115, if_neg (by omega)]]
          exact zRdf rfl hB115 (zO18 (by decide))
    · have hw55 := qhas_pos (wd := qw_aye) (n := 3) h55 rfl (by decide) ⟨by omega, by omega⟩
      refine z_al0 eX0_readSetting_58 hne ?_
      first | refine z_ta0 lX0_21 eX0_readSetting_59 rfl hT hA (by decide) rfl rfl ?_ | refine z_ta lX0_21 eX0_readSetting_59 rfl hT hA ⟨by decide, by decide⟩ rfl rfl ?_
      first | rw [zTk_o (by decide), zset_eq] | skip
      refine z_al0 eX0_readSetting_62 hne ?_
      first | refine z_ta0 lX0_12 eX0_readSetting_63 rfl hT hA (by decide) rfl rfl ?_ | refine z_ta lX0_12 eX0_readSetting_63 rfl hT hA ⟨by decide, by decide⟩ rfl rfl ?_
      first | rw [zTk_o (by decide), zset_eq] | skip
      refine z_iconst eX0_readSetting_66 ?_
      refine z_bipush eX0_readSetting_67 (by decide) ?_
      refine z_tkn eX0_readSetting_69 vX0_111 rfl rfl (Nat.le_of_ble_eq_true rfl) (Nat.le_of_ble_eq_true rfl) hT hX ⟨by omega, by omega⟩ ⟨by omega, by omega⟩ ⟨by omega, by omega⟩ (fun F69 hF69 hG69 hB69 hP69 => ?_) (fun F69 hF69 hG69 hB69 => ?_)
      · first | refine z_tp0 (j := 8) lX0_119 eX0_readSetting_72 rfl hT hD (by decide) rfl rfl rfl ?_ | refine z_tp (j := 8) lX0_119 eX0_readSetting_72 rfl hT hD ⟨by decide, by decide⟩ rfl rfl rfl ?_
        rw [zTk_so (by decide)]
        refine z_al0 eX0_readSetting_75 hne ?_
        first | refine z_ta0 lX0_21 eX0_readSetting_76 rfl hT hA (by decide) rfl rfl ?_ | refine z_ta lX0_21 eX0_readSetting_76 rfl hT hA ⟨by decide, by decide⟩ rfl rfl ?_
        first | rw [zTk_o (by decide), zset_eq] | skip
        first | refine z_tg0 (j := 8) lX0_119 eX0_readSetting_79 rfl hT hD (by decide) rfl rfl rfl ?_ | refine z_tg (j := 8) lX0_119 eX0_readSetting_79 rfl hT hD ⟨by decide, by decide⟩ rfl rfl rfl ?_
        first | rw [zTk_o (by decide), zset_eq] | skip
        refine z_iconst eX0_readSetting_82 ?_
        refine z_icmp_eq (tgt := 90) eX0_readSetting_83 rfl ⟨⟨by omega, by omega⟩, ⟨by omega, by omega⟩⟩ (fun h83 => (by exfalso; omega)) (fun h83 => ?_)
        refine z_iconst eX0_readSetting_86 ?_
        refine z_goto eX0_readSetting_87 (tgt := 91) rfl ?_
        refine z_zreturn eX0_readSetting_91 rfl (by first | exact Or.inl rfl | exact Or.inr rfl | exact zbi_01 _ | assumption | omega) ?_
        rw [show qSetL T e M (qscan qbl T e a) = (zput M 9 F69.1, F69.2) by unfold qSetL qTells; rw [zif_f h9, zif_t h55, hF69, if_pos hG69]]
        exact zRdt hG69 rfl (zO18 (by decide)) (zset_f (by decide)) (hN.fld hI (by omega))
      · first | refine z_tp0 (j := 8) lX0_119 eX0_readSetting_72 rfl hT hD (by decide) rfl rfl rfl ?_ | refine z_tp (j := 8) lX0_119 eX0_readSetting_72 rfl hT hD ⟨by decide, by decide⟩ rfl rfl rfl ?_
        rw [zTk_so (by decide)]
        refine z_al0 eX0_readSetting_75 hne ?_
        first | refine z_ta0 lX0_21 eX0_readSetting_76 rfl hT hA (by decide) rfl rfl ?_ | refine z_ta lX0_21 eX0_readSetting_76 rfl hT hA ⟨by decide, by decide⟩ rfl rfl ?_
        first | rw [zTk_o (by decide), zset_eq] | skip
        first | refine z_tg0 (j := 8) lX0_119 eX0_readSetting_79 rfl hT hD (by decide) rfl rfl rfl ?_ | refine z_tg (j := 8) lX0_119 eX0_readSetting_79 rfl hT hD ⟨by decide, by decide⟩ rfl rfl rfl ?_
        first | rw [zTk_o (by decide), zset_eq] | skip
        refine z_iconst eX0_readSetting_82 ?_
        refine z_icmp_eq (tgt := 90) eX0_readSetting_83 rfl ⟨⟨by omega, by omega⟩, ⟨by omega, by omega⟩⟩ (fun h83 => ?_) (fun h83 => (by exfalso; omega))
        refine z_iconst eX0_readSetting_90 ?_
        refine z_zreturn eX0_readSetting_91 rfl (by first | exact Or.inl rfl | exact Or.inr rfl | exact zbi_01 _ | assumption | omega) ?_
        rw [show qSetL T e M (qscan qbl T e a) = (M, F69.2) by unfold qSetL qTells; rw [zif_f h9, zif_t h55, hF69, if_neg (by omega)]]
        exact zRdf rfl hB69 (zO18 (by decide))
  · have hw9 := qhas_pos (wd := qw_quorum) (n := 6) h9 rfl (by decide) ⟨by omega, by omega⟩
    refine z_al0 eX0_readSetting_12 hne ?_
    first | refine z_ta0 lX0_21 eX0_readSetting_13 rfl hT hA (by decide) rfl rfl ?_ | refine z_ta lX0_21 eX0_readSetting_13 rfl hT hA ⟨by decide, by decide⟩ rfl rfl ?_
    first | rw [zTk_o (by decide), zset_eq] | skip
    refine z_al0 eX0_readSetting_16 hne ?_
    first | refine z_ta0 lX0_12 eX0_readSetting_17 rfl hT hA (by decide) rfl rfl ?_ | refine z_ta lX0_12 eX0_readSetting_17 rfl hT hA ⟨by decide, by decide⟩ rfl rfl ?_
    first | rw [zTk_o (by decide), zset_eq] | skip
    refine z_iconst eX0_readSetting_20 ?_
    refine z_bipush eX0_readSetting_21 (by decide) ?_
    refine z_tkn eX0_readSetting_23 vX0_111 rfl rfl (Nat.le_of_ble_eq_true rfl) (Nat.le_of_ble_eq_true rfl) hT hX ⟨by omega, by omega⟩ ⟨by omega, by omega⟩ ⟨by omega, by omega⟩ (fun F23 hF23 hG23 hB23 hP23 => ?_) (fun F23 hF23 hG23 hB23 => ?_)
    · first | refine z_tp0 (j := 7) lX0_115 eX0_readSetting_26 rfl hT hD (by decide) rfl rfl rfl ?_ | refine z_tp (j := 7) lX0_115 eX0_readSetting_26 rfl hT hD ⟨by decide, by decide⟩ rfl rfl rfl ?_
      rw [zTk_so (by decide)]
      refine z_al0 eX0_readSetting_29 hne ?_
      first | refine z_ta0 lX0_21 eX0_readSetting_30 rfl hT hA (by decide) rfl rfl ?_ | refine z_ta lX0_21 eX0_readSetting_30 rfl hT hA ⟨by decide, by decide⟩ rfl rfl ?_
      first | rw [zTk_o (by decide), zset_eq] | skip
      first | refine z_tg0 (j := 7) lX0_115 eX0_readSetting_33 rfl hT hD (by decide) rfl rfl rfl ?_ | refine z_tg (j := 7) lX0_115 eX0_readSetting_33 rfl hT hD ⟨by decide, by decide⟩ rfl rfl rfl ?_
      first | rw [zTk_o (by decide), zset_eq] | skip
      refine z_iconst eX0_readSetting_36 ?_
      refine z_icmp_eq (tgt := 44) eX0_readSetting_37 rfl ⟨⟨by omega, by omega⟩, ⟨by omega, by omega⟩⟩ (fun h37 => (by exfalso; omega)) (fun h37 => ?_)
      refine z_iconst eX0_readSetting_40 ?_
      refine z_goto eX0_readSetting_41 (tgt := 45) rfl ?_
      refine z_zreturn eX0_readSetting_45 rfl (by first | exact Or.inl rfl | exact Or.inr rfl | exact zbi_01 _ | assumption | omega) ?_
      rw [show qSetL T e M (qscan qbl T e a) = (zput M 8 F23.1, F23.2) by unfold qSetL qTells; rw [zif_t h9, hF23, if_pos hG23]]
      exact zRdt hG23 rfl (zO18 (by decide)) (zset_f (by decide)) (hN.fld hI (by omega))
    · first | refine z_tp0 (j := 7) lX0_115 eX0_readSetting_26 rfl hT hD (by decide) rfl rfl rfl ?_ | refine z_tp (j := 7) lX0_115 eX0_readSetting_26 rfl hT hD ⟨by decide, by decide⟩ rfl rfl rfl ?_
      rw [zTk_so (by decide)]
      refine z_al0 eX0_readSetting_29 hne ?_
      first | refine z_ta0 lX0_21 eX0_readSetting_30 rfl hT hA (by decide) rfl rfl ?_ | refine z_ta lX0_21 eX0_readSetting_30 rfl hT hA ⟨by decide, by decide⟩ rfl rfl ?_
      first | rw [zTk_o (by decide), zset_eq] | skip
      first | refine z_tg0 (j := 7) lX0_115 eX0_readSetting_33 rfl hT hD (by decide) rfl rfl rfl ?_ | refine z_tg (j := 7) lX0_115 eX0_readSetting_33 rfl hT hD ⟨by decide, by decide⟩ rfl rfl rfl ?_
      first | rw [zTk_o (by decide), zset_eq] | skip
      refine z_iconst eX0_readSetting_36 ?_
      refine z_icmp_eq (tgt := 44) eX0_readSetting_37 rfl ⟨⟨by omega, by omega⟩, ⟨by omega, by omega⟩⟩ (fun h37 => ?_) (fun h37 => (by exfalso; omega))
      refine z_iconst eX0_readSetting_44 ?_
      refine z_zreturn eX0_readSetting_45 rfl (by first | exact Or.inl rfl | exact Or.inr rfl | exact zbi_01 _ | assumption | omega) ?_
      rw [show qSetL T e M (qscan qbl T e a) = (M, F23.2) by unfold qSetL qTells; rw [zif_t h9, hF23, if_neg (by omega)]]
      exact zRdf rfl hB23 (zO18 (by decide))
