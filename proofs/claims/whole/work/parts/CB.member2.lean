/-! A member's line. -/
theorem zTk_back {s q : zMem} {w : Int} {T : Int → Int} {e a f : Int} (h : q w = zTk s w T e a f w) : q = zTk (zRow q w (s w)) w T e a f := by
  funext o
  by_cases c : o = w
  · rw [c, h]
    funext j
    unfold zTk zWd
    rw [zRow_e]
  · rw [zTk_o c, zRow_o c]
theorem zRdq {lay : zLay} {s q C0 : zMem} {nx x e a : Int} {T : Int → Int} {L : qLn} (h : L.2.2 = -1) (h1 : qscan qbl T e L.2.1 = qscan qbl T e a) (hS : zOut 276 18 (zTk s 274 T e a (-1)) q) (h10 : q 276 10 = s 276 10) (hN : CoN q 276 L.1) : zZ' (some (zI (zbi (L.2.2 = -1)))) (zRdC s T e L) lay C0 nx x (.inl (some (zI 1))) lay (tC x q C0) nx := by
  have hq := zTk_back (s := s) (q := q) (w := 274) (T := T) (e := e) (a := a) (f := -1) (hS _ (by decide))
  refine zZe ⟨fun _ => ⟨zRow q 274 (s 274), ?_, fun i hi => ?_, ?_, ?_⟩, fun z => absurd h z⟩ (zbi_t h).symm
  · rw [zTk_sk h1]; exact hq
  · by_cases c : i = 274
    · rw [c, zRow_e]
    · rw [zRow_o c, hS i hi, zTk_o c]
  · rw [zRow_o (by decide)]; exact h10
  · exact hN.far (fun i i0 i1 => zRow_o (by omega))
theorem qMemberLine_e {T : Int → Int} {e beg a : Int} {M : Int → Int} (h3 : M 3 ≠ 7) {r s : Int × Int × Int} {h i : Int × Int} (hr : qAfter T e qw_at 0 7 a (-1) = r) (hs : qSeats T e r.2.1 r.2.2 = s) (hh : qOpt T e qw_hat s.2.1 s.2.2 = h) (hi : qOpt T e qw_in h.2 s.2.2 = i) : qMemberLine T e M beg a = (if s.2.2 = -1 then qMem M r.1 s.1 h.1 i.1 else M, i.2, s.2.2) := by
  subst hi hh hs hr
  unfold qMemberLine
  rw [if_neg h3]
theorem qSeats_x {T : Int → Int} {e a f : Int} (h : f ≠ -1) : qSeats T e a f = (1, a, f) := by unfold qSeats; rw [if_neg h]
theorem qSeats_t {T : Int → Int} {e a : Int} (h : qhas T e (qscan qbl T e a) qw_seats) : qSeats T e a (-1) = qFig T e 0 20 (qscan qbl T e a + 5) (-1) := by unfold qSeats; rw [if_pos rfl, zif_t h]
theorem qSeats_f {T : Int → Int} {e a : Int} (h : ¬ qhas T e (qscan qbl T e a) qw_seats) : qSeats T e a (-1) = (1, qscan qbl T e a, -1) := by unfold qSeats; rw [if_pos rfl, zif_f h]
theorem qOpt_t {T : Int → Int} {e a n : Int} {w : List Int} (hn : (w.length : Int) = n) (h : qhas T e (qscan qbl T e a) w) : qOpt T e w a (-1) = (1, qscan qbl T e a + n) := by unfold qOpt; rw [if_pos rfl, zif_t h, hn]
theorem qOpt_f {T : Int → Int} {e a : Int} {w : List Int} (h : ¬ qhas T e (qscan qbl T e a) w) : qOpt T e w a (-1) = (0, qscan qbl T e a) := by unfold qOpt; rw [if_pos rfl, zif_f h]
theorem qOpt_sk {T : Int → Int} {e a a' : Int} {w : List Int} (h : qscan qbl T e a = qscan qbl T e a') : qOpt T e w a (-1) = qOpt T e w a' (-1) := by unfold qOpt; rw [if_pos rfl, if_pos rfl, h]
theorem zif_zTk {σ : zMem} {w : Int} {T : Int → Int} {e u v g h : Int} {p : Prop} : (p → zTk σ w T e (zif p u v) (zif p g h) = zTk σ w T e u g) ∧ (¬ p → zTk σ w T e (zif p u v) (zif p g h) = zTk σ w T e v h) := ⟨fun q => by rw [zif_t q, zif_t q], fun q => by rw [zif_f q, zif_f q]⟩
theorem c_X0_readMember {G : zG} {lay : zLay} {s C0 : zMem} {nx x e a : Int} {T M : Int → Int} (hT : TopL lay x) (hX : TxC x s 274 T e) (ha : 0 ≤ a ∧ a ≤ e) (hN : CoN s 276 M) (hM : zOC M) (hS : TxS lay C0) (hh : qhas T e (qscan qbl T e a) qw_member) (h3 : M 3 < 7) : zMM G 9 KX0_readMember [zP (x + 273)] lay (tC x (zTk s 274 T e a (-1)) C0) nx (0, 0) (zZ' (some (zI (zbi ((qMemberLine T e M (qscan qbl T e a) (qscan qbl T e a + 6)).2.2 = -1)))) (zRdC s T e (qMemberLine T e M (qscan qbl T e a) (qscan qbl T e a + 6))) lay C0 nx x) := by
  refine z_met' (L := [zP (x + 273), zU, zU, zU, zU]) gX0_readMember.1 rfl rfl (Nat.le_of_ble_eq_true rfl) rfl ?_
  have hA := CxAt
  have hD := isCo.draft
  have hx := hT.1
  have hne : x + 273 ≠ -1 := by omega
  have he := hX.e0
  have hI := hM.I
  have hm3 := hI.m3
  have hm4 := hI.m4
  have hh0 := qhas_pos (n := 6) hh rfl (by decide) ha
  have hs0 := qhas_stop (n := 6) hh rfl (by decide) (qskip_bd (T := T) ha.2).2
  obtain ⟨a1, ha1⟩ : ∃ a1, qscan qbl T e a + 6 = a1 := ⟨_, rfl⟩
  obtain ⟨Q, hQ⟩ : ∃ Q, zZ' (some (zI (zbi ((qMemberLine T e M (qscan qbl T e a) (qscan qbl T e a + 6)).2.2 = -1)))) (zRdC s T e (qMemberLine T e M (qscan qbl T e a) (qscan qbl T e a + 6))) lay C0 nx x = Q := ⟨_, rfl⟩
  have hNk : ∀ a f, CoN (zTk s 274 T e a f) 276 M := fun a f => hN.far (fun i i0 i1 => zTk_o (by omega))
  have hex : ∀ {r s9 : Int × Int × Int}, qAfter T e qw_at 0 7 a1 (-1) = r → qSeats T e r.2.1 r.2.2 = s9 → s9.2.2 ≠ -1 → (qMemberLine T e M (qscan qbl T e a) (qscan qbl T e a + 6)).2.2 = s9.2.2 := by
    intro r s9 h1 h2 h3'
    rw [ha1, qMemberLine_e (by omega) h1 h2 rfl rfl]
  have w71 : ∀ (F S : Int × Int × Int) (a2 : Int) (y3 y4 : zAV), y3.1 ≠ 1 → qAfter T e qw_at 0 7 a1 (-1) = F → F.2.2 = -1 → qSeats T e F.2.1 (-1) = S → S.2.2 = -1 → qscan qbl T e S.2.1 = qscan qbl T e a2 → 0 ≤ a2 ∧ a2 ≤ e → zW G KX0_readMember 9 Q 71 [zP (x + 273), zI F.1, zI S.1, y3, y4] [] lay (tC x (zTk s 274 T e a2 (-1)) C0) nx (0, 0) := by
    intro F S a2 y3 y4 hy hF hF1 hS1 hS2 hS3 ha2
    have w90 : ∀ (hv iv a4 : Int) (H I : Int × Int), (hv = 0 ∨ hv = 1) → (iv = 0 ∨ iv = 1) → qOpt T e qw_hat S.2.1 (-1) = H → H.1 = hv → qOpt T e qw_in H.2 (-1) = I → I.1 = iv → qscan qbl T e I.2 = qscan qbl T e a4 → zW G KX0_readMember 9 Q 90 [zP (x + 273), zI F.1, zI S.1, zI hv, y4] [zI iv] lay (tC x (zTk s 274 T e a4 (-1)) C0) nx (0, 0) := by
      intro hv iv a4 H I hv1 iv1 hH hH1 hI1 hI2 hI3
      have hL : qMemberLine T e M (qscan qbl T e a) (qscan qbl T e a + 6) = (qMem M F.1 S.1 hv iv, I.2, -1) := by
        rw [ha1, qMemberLine_e (r := F) (s := S) (h := H) (i := I) (by omega) hF (by rw [hF1]; exact hS1) (by rw [hS2]; exact hH) (by rw [hS2]; exact hI1), if_pos hS2, hS2, hH1, hI2]
      rw [← hQ, hL]
      rcases iv1 with z | z
      · subst z
        refine z_is4 eX0_readMember_90 (Nat.ne_of_beq_eq_false rfl) ?_
        refine z_al0 eX0_readMember_92 hne ?_
        first | refine z_ta0 lX0_21 eX0_readMember_93 rfl hT hA (by decide) rfl rfl ?_ | refine z_ta lX0_21 eX0_readMember_93 rfl hT hA ⟨by decide, by decide⟩ rfl rfl ?_
        refine z_il1 eX0_readMember_96 ?_
        refine z_il2 eX0_readMember_97 ?_
        refine z_il3 eX0_readMember_98 ?_
        refine z_il4 eX0_readMember_99 ?_
        refine z_if_ne (tgt := 108) eX0_readMember_101 rfl ⟨by omega, by omega⟩ (fun h101 => absurd rfl h101) (fun h101 => ?_)
        refine z_iconst eX0_readMember_104 ?_
        refine z_goto eX0_readMember_105 (tgt := 109) rfl ?_
        refine z_V4vz eX0_readMember_109 vX0_148 rfl rfl (Nat.le_of_ble_eq_true rfl) (Nat.le_of_ble_eq_true rfl) ((hD).L0 hT (by decide)) (c_X1_addMember hT hD (hNk _ _) hI h3 hv1 (Or.inr rfl)) (fun s109 hs109 => ?_)
        obtain ⟨q1, q2, q3⟩ := hs109
        refine z_iconst eX0_readMember_112 ?_
        refine z_zreturn eX0_readMember_113 rfl (by first | exact Or.inl rfl | exact Or.inr rfl | exact zbi_01 _ | assumption | omega) ?_
        exact zRdq rfl hI3 q1 (q2.trans (by show zTk s 274 T e a4 (-1) 276 10 = _; rw [zTk_o (by decide)])) (by have := q3; rwa [show (1 : Int) - 1 = 0 by decide] at this)
      · subst z
        refine z_is4 eX0_readMember_90 (Nat.ne_of_beq_eq_false rfl) ?_
        refine z_al0 eX0_readMember_92 hne ?_
        first | refine z_ta0 lX0_21 eX0_readMember_93 rfl hT hA (by decide) rfl rfl ?_ | refine z_ta lX0_21 eX0_readMember_93 rfl hT hA ⟨by decide, by decide⟩ rfl rfl ?_
        refine z_il1 eX0_readMember_96 ?_
        refine z_il2 eX0_readMember_97 ?_
        refine z_il3 eX0_readMember_98 ?_
        refine z_il4 eX0_readMember_99 ?_
        refine z_if_ne (tgt := 108) eX0_readMember_101 rfl ⟨by omega, by omega⟩ (fun h101 => ?_) (fun h101 => absurd h101 (by decide))
        refine z_iconst eX0_readMember_108 ?_
        refine z_V4vz eX0_readMember_109 vX0_148 rfl rfl (Nat.le_of_ble_eq_true rfl) (Nat.le_of_ble_eq_true rfl) ((hD).L0 hT (by decide)) (c_X1_addMember hT hD (hNk _ _) hI h3 hv1 (Or.inl rfl)) (fun s109 hs109 => ?_)
        obtain ⟨q1, q2, q3⟩ := hs109
        refine z_iconst eX0_readMember_112 ?_
        refine z_zreturn eX0_readMember_113 rfl (by first | exact Or.inl rfl | exact Or.inr rfl | exact zbi_01 _ | assumption | omega) ?_
        exact zRdq rfl hI3 q1 (q2.trans (by show zTk s 274 T e a4 (-1) 276 10 = _; rw [zTk_o (by decide)])) (by have := q3; rwa [show (1 : Int) - 0 = 1 by decide] at this)
    have w80 : ∀ (hv a3 : Int) (H : Int × Int), (hv = 0 ∨ hv = 1) → qOpt T e qw_hat S.2.1 (-1) = H → H.1 = hv → qscan qbl T e H.2 = qscan qbl T e a3 → 0 ≤ a3 ∧ a3 ≤ e → zW G KX0_readMember 9 Q 80 [zP (x + 273), zI F.1, zI S.1, y3, y4] [zI hv] lay (tC x (zTk s 274 T e a3 (-1)) C0) nx (0, 0) := by
      intro hv a3 H hv1 hH hH1 hH2 ha3
      by_cases p : qhas T e (qscan qbl T e a3) qw_in
      · skip
        refine z_is3 eX0_readMember_80 (Nat.ne_of_beq_eq_false rfl) ?_
        refine z_al0 eX0_readMember_81 hne ?_
        first | refine z_ta0 lX0_12 eX0_readMember_82 rfl hT hA (by decide) rfl rfl ?_ | refine z_ta lX0_12 eX0_readMember_82 rfl hT hA ⟨by decide, by decide⟩ rfl rfl ?_
        refine z_ldcS (t := 4) eX0_readMember_85 rfl rfl rfl (by rw [(hS 4 _ rfl).1]) ?_
        refine z_V1 eX0_readMember_87 vX0_76 rfl rfl (Nat.le_of_ble_eq_true rfl) (Nat.le_of_ble_eq_true rfl) ((WdAt.a).L0 hT (by decide)) (c_X10_takeWord hT hX ⟨by omega, by omega⟩ hS (t := 4) (wd := qw_in) (n := 2) rfl rfl (by decide)) ?_
        rw [zif_zTk.1 p, zbi_t p]
        have k1 := (qOpt_sk (w := qw_in) hH2).trans (qOpt_t (w := qw_in) (n := 2) rfl p)
        have k2 := w90 hv 1 (qscan qbl T e a3 + 2) H (1, qscan qbl T e a3 + 2) hv1 (Or.inr rfl) hH hH1 k1
        have k3 := k2 rfl rfl
        exact k3
      · skip
        refine z_is3 eX0_readMember_80 (Nat.ne_of_beq_eq_false rfl) ?_
        refine z_al0 eX0_readMember_81 hne ?_
        first | refine z_ta0 lX0_12 eX0_readMember_82 rfl hT hA (by decide) rfl rfl ?_ | refine z_ta lX0_12 eX0_readMember_82 rfl hT hA ⟨by decide, by decide⟩ rfl rfl ?_
        refine z_ldcS (t := 4) eX0_readMember_85 rfl rfl rfl (by rw [(hS 4 _ rfl).1]) ?_
        refine z_V1 eX0_readMember_87 vX0_76 rfl rfl (Nat.le_of_ble_eq_true rfl) (Nat.le_of_ble_eq_true rfl) ((WdAt.a).L0 hT (by decide)) (c_X10_takeWord hT hX ⟨by omega, by omega⟩ hS (t := 4) (wd := qw_in) (n := 2) rfl rfl (by decide)) ?_
        rw [zif_zTk.2 p, zbi_f p]
        exact w90 hv 0 _ H (0, qscan qbl T e a3) hv1 (Or.inl rfl) hH hH1 ((qOpt_sk (w := qw_in) hH2).trans (qOpt_f p)) rfl qskip_idem
    by_cases p : qhas T e (qscan qbl T e a2) qw_hat
    · have hp := qhas_pos (n := 3) p rfl (by decide) ha2
      refine z_al0 eX0_readMember_71 hne ?_
      first | refine z_ta0 lX0_12 eX0_readMember_72 rfl hT hA (by decide) rfl rfl ?_ | refine z_ta lX0_12 eX0_readMember_72 rfl hT hA ⟨by decide, by decide⟩ rfl rfl ?_
      refine z_ldcS (t := 3) eX0_readMember_75 rfl rfl rfl (by rw [(hS 3 _ rfl).1]) ?_
      refine z_V1 eX0_readMember_77 vX0_76 rfl rfl (Nat.le_of_ble_eq_true rfl) (Nat.le_of_ble_eq_true rfl) ((WdAt.a).L0 hT (by decide)) (c_X10_takeWord hT hX ⟨by omega, by omega⟩ hS (t := 3) (wd := qw_hat) (n := 3) rfl rfl (by decide)) ?_
      rw [zif_zTk.1 p, zbi_t p]
      exact w80 1 _ (1, qscan qbl T e a2 + 3) (Or.inr rfl) ((qOpt_sk (w := qw_hat) hS3).trans (qOpt_t (w := qw_hat) (n := 3) rfl p)) rfl rfl ⟨by omega, by omega⟩
    · skip
      refine z_al0 eX0_readMember_71 hne ?_
      first | refine z_ta0 lX0_12 eX0_readMember_72 rfl hT hA (by decide) rfl rfl ?_ | refine z_ta lX0_12 eX0_readMember_72 rfl hT hA ⟨by decide, by decide⟩ rfl rfl ?_
      refine z_ldcS (t := 3) eX0_readMember_75 rfl rfl rfl (by rw [(hS 3 _ rfl).1]) ?_
      refine z_V1 eX0_readMember_77 vX0_76 rfl rfl (Nat.le_of_ble_eq_true rfl) (Nat.le_of_ble_eq_true rfl) ((WdAt.a).L0 hT (by decide)) (c_X10_takeWord hT hX ⟨by omega, by omega⟩ hS (t := 3) (wd := qw_hat) (n := 3) rfl rfl (by decide)) ?_
      rw [zif_zTk.2 p, zbi_f p]
      exact w80 0 _ (0, qscan qbl T e a2) (Or.inl rfl) ((qOpt_sk (w := qw_hat) hS3).trans (qOpt_f p)) rfl qskip_idem ha2
  rw [hQ]
  refine z_al0 eX0_readMember_0 hne ?_
  first | refine z_ta0 lX0_12 eX0_readMember_1 rfl hT hA (by decide) rfl rfl ?_ | refine z_ta lX0_12 eX0_readMember_1 rfl hT hA ⟨by decide, by decide⟩ rfl rfl ?_
  refine z_V0v eX0_readMember_4 vX0_134 rfl rfl (Nat.le_of_ble_eq_true rfl) (Nat.le_of_ble_eq_true rfl) ((WdAt.a).L0 hT (by decide)) (c_X10_advance hT hX (s := qStop T e (qscan qbl T e a)) ⟨by omega, by omega⟩) ?_
  rw [hs0.2.2.1, ha1]
  refine z_al0 eX0_readMember_7 hne ?_
  first | refine z_ta0 lX0_12 eX0_readMember_8 rfl hT hA (by decide) rfl rfl ?_ | refine z_ta lX0_12 eX0_readMember_8 rfl hT hA ⟨by decide, by decide⟩ rfl rfl ?_
  refine z_ldcS (t := 1) eX0_readMember_11 rfl rfl rfl (by rw [(hS 1 _ rfl).1]) ?_
  refine z_V1 eX0_readMember_13 vX0_139 rfl rfl (Nat.le_of_ble_eq_true rfl) (Nat.le_of_ble_eq_true rfl) ((WdAt.a).L0 hT (by decide)) (c_X10_needWord hT hX ⟨by omega, by omega⟩ hS (t := 1) (wd := qw_at) (n := 2) rfl rfl (by decide) rfl) ?_
  refine z_ifk_ne (tgt := 21) eX0_readMember_16 rfl (fun h16 => ?_) (fun h16 => ?_)
  · have hw16 := qhas_pos (wd := qw_at) (n := 2) h16 rfl (by decide) ⟨by omega, by omega⟩
    refine z_al0 eX0_readMember_21 hne ?_
    first | refine z_ta0 lX0_12 eX0_readMember_22 rfl hT hA (by decide) rfl rfl ?_ | refine z_ta lX0_12 eX0_readMember_22 rfl hT hA ⟨by decide, by decide⟩ rfl rfl ?_
    refine z_iconst eX0_readMember_25 ?_
    refine z_bipush eX0_readMember_26 (by decide) ?_
    refine z_tkn eX0_readMember_28 vX0_111 rfl rfl (Nat.le_of_ble_eq_true rfl) (Nat.le_of_ble_eq_true rfl) hT hX ⟨by omega, by omega⟩ ⟨by omega, by omega⟩ ⟨by omega, by omega⟩ (fun F28 hF28 hG28 hB28 hP28 => ?_) (fun F28 hF28 hG28 hB28 => ?_)
    · refine z_is1 eX0_readMember_31 (Nat.ne_of_beq_eq_false rfl) ?_
      refine z_il1 eX0_readMember_32 ?_
      refine z_iconst eX0_readMember_33 ?_
      refine z_icmp_ne (tgt := 39) eX0_readMember_34 rfl ⟨⟨by omega, by omega⟩, ⟨by omega, by omega⟩⟩ (fun h34 => ?_) (fun h34 => (by exfalso; omega))
      refine z_iconst eX0_readMember_39 ?_
      refine z_is2 eX0_readMember_40 (Nat.ne_of_beq_eq_false rfl) ?_
      refine z_al0 eX0_readMember_41 hne ?_
      first | refine z_ta0 lX0_12 eX0_readMember_42 rfl hT hA (by decide) rfl rfl ?_ | refine z_ta lX0_12 eX0_readMember_42 rfl hT hA ⟨by decide, by decide⟩ rfl rfl ?_
      refine z_ldcS (t := 2) eX0_readMember_45 rfl rfl rfl (by rw [(hS 2 _ rfl).1]) ?_
      refine z_V1 eX0_readMember_47 vX0_76 rfl rfl (Nat.le_of_ble_eq_true rfl) (Nat.le_of_ble_eq_true rfl) ((WdAt.a).L0 hT (by decide)) (c_X10_takeWord hT hX ⟨by omega, by omega⟩ hS (t := 2) (wd := qw_seats) (n := 5) rfl rfl (by decide)) ?_
      refine z_ifk_eq (tgt := 71) eX0_readMember_50 rfl (fun h50 => ?_) (fun h50 => ?_)
      · exact w71 F28 (1, qscan qbl T e F28.2.1, -1) F28.2.1 _ _ (Nat.ne_of_beq_eq_false rfl) ((qAfter_t (w := qw_at) (n := 2) rfl h16).trans hF28) hG28 (qSeats_f h50) rfl qskip_idem hP28
      · have hw50 := qhas_pos (wd := qw_seats) (n := 5) h50 rfl (by decide) ⟨by omega, by omega⟩
        refine z_al0 eX0_readMember_53 hne ?_
        first | refine z_ta0 lX0_12 eX0_readMember_54 rfl hT hA (by decide) rfl rfl ?_ | refine z_ta lX0_12 eX0_readMember_54 rfl hT hA ⟨by decide, by decide⟩ rfl rfl ?_
        refine z_iconst eX0_readMember_57 ?_
        refine z_bipush eX0_readMember_58 (by decide) ?_
        refine z_tkn eX0_readMember_60 vX0_111 rfl rfl (Nat.le_of_ble_eq_true rfl) (Nat.le_of_ble_eq_true rfl) hT hX ⟨by omega, by omega⟩ ⟨by omega, by omega⟩ ⟨by omega, by omega⟩ (fun F60 hF60 hG60 hB60 hP60 => ?_) (fun F60 hF60 hG60 hB60 => ?_)
        · refine z_is2 eX0_readMember_63 (Nat.ne_of_beq_eq_false rfl) ?_
          refine z_il2 eX0_readMember_64 ?_
          refine z_iconst eX0_readMember_65 ?_
          refine z_icmp_ne (tgt := 71) eX0_readMember_66 rfl ⟨⟨by omega, by omega⟩, ⟨by omega, by omega⟩⟩ (fun h66 => ?_) (fun h66 => (by exfalso; omega))
          exact w71 F28 F60 F60.2.1 _ _ (Nat.ne_of_beq_eq_false rfl) ((qAfter_t (w := qw_at) (n := 2) rfl h16).trans hF28) hG28 ((qSeats_t h50).trans hF60) hG60 rfl hP60
        · refine z_is2 eX0_readMember_63 (Nat.ne_of_beq_eq_false rfl) ?_
          refine z_il2 eX0_readMember_64 ?_
          refine z_iconst eX0_readMember_65 ?_
          refine z_icmp_ne (tgt := 71) eX0_readMember_66 rfl ⟨⟨by omega, by omega⟩, ⟨by omega, by omega⟩⟩ (fun h66 => (by exfalso; omega)) (fun h66 => ?_)
          refine z_iconst eX0_readMember_69 ?_
          refine z_zreturn eX0_readMember_70 rfl (by first | exact Or.inl rfl | exact Or.inr rfl | exact zbi_01 _ | assumption | omega) ?_
          rw [← hQ]
          exact zRdf (hex ((qAfter_t (w := qw_at) (n := 2) rfl h16).trans hF28) (by rw [hG28, qSeats_t h50]; exact hF60) (by omega)) hB60 (zOut.refl _ _ _)
    · refine z_is1 eX0_readMember_31 (Nat.ne_of_beq_eq_false rfl) ?_
      refine z_il1 eX0_readMember_32 ?_
      refine z_iconst eX0_readMember_33 ?_
      refine z_icmp_ne (tgt := 39) eX0_readMember_34 rfl ⟨⟨by omega, by omega⟩, ⟨by omega, by omega⟩⟩ (fun h34 => (by exfalso; omega)) (fun h34 => ?_)
      refine z_iconst eX0_readMember_37 ?_
      refine z_zreturn eX0_readMember_38 rfl (by first | exact Or.inl rfl | exact Or.inr rfl | exact zbi_01 _ | assumption | omega) ?_
      rw [← hQ]
      exact zRdf (hex (s9 := (1, F28.2.1, F28.2.2)) ((qAfter_t (w := qw_at) (n := 2) rfl h16).trans hF28) (qSeats_x (by omega)) (by dsimp only; omega)) hB28 (zOut.refl _ _ _)
  · refine z_iconst eX0_readMember_19 ?_
    refine z_zreturn eX0_readMember_20 rfl (by first | exact Or.inl rfl | exact Or.inr rfl | exact zbi_01 _ | assumption | omega) ?_
    have hb9 := qskip_bd (T := T) (e := e) (a := a1) (by omega)
    rw [← hQ]
    exact zRdf ((hex (qAfter_f h16) (qSeats_x (by dsimp only; omega)) (by dsimp only; omega))) (by omega) (zOut.refl _ _ _)
