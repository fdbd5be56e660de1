/-! A sky, named; its line. -/
theorem c_X0_takeSky {G : zG} {lay : zLay} {s C0 : zMem} {nx x e a : Int} {T : Int → Int} (hT : TopL lay x) (hX : TxC x s 274 T e) (ha : 0 ≤ a ∧ a ≤ e) (hS : TxS lay C0) : zMM G 8 KX0_takeSky [zP (x + 273)] lay (tC x (zTk s 274 T e a (-1)) C0) nx (0, 0) (zR (some (zI (if (qSky T e a (-1)).2.2 = -1 then (qSky T e a (-1)).1 else -1))) lay (tC x (zTk s 274 T e (if (qSky T e a (-1)).2.2 = -1 then (qSky T e a (-1)).2.1 else a) (qSky T e a (-1)).2.2) C0) nx) := by
  refine z_met' (L := [zP (x + 273)]) gX0_takeSky.1 rfl rfl (Nat.le_of_ble_eq_true rfl) rfl ?_
  have hA := CxAt
  have hx := hT.1
  have hne : x + 273 ≠ -1 := by omega
  have hbd := qskip_bd (T := T) ha.2
  refine z_al0 eX0_takeSky_0 hne ?_
  first | refine z_ta0 lX0_12 eX0_takeSky_1 rfl hT hA (by decide) rfl rfl ?_ | refine z_ta lX0_12 eX0_takeSky_1 rfl hT hA ⟨by decide, by decide⟩ rfl rfl ?_
  refine z_ldcS (t := 11) eX0_takeSky_4 rfl rfl rfl (by rw [(hS 11 _ rfl).1]) ?_
  refine z_V1 eX0_takeSky_6 vX0_76 rfl rfl (Nat.le_of_ble_eq_true rfl) (Nat.le_of_ble_eq_true rfl) ((WdAt.a).L0 hT (by decide)) (c_X10_takeWord hT hX ⟨by omega, by omega⟩ hS (t := 11) (wd := qw_sun) (n := 3) rfl rfl (by decide)) ?_
  refine z_ifk_eq (tgt := 14) eX0_takeSky_9 rfl (fun h9 => ?_) (fun h9 => ?_)
  · refine z_al0 eX0_takeSky_14 hne ?_
    first | refine z_ta0 lX0_12 eX0_takeSky_15 rfl hT hA (by decide) rfl rfl ?_ | refine z_ta lX0_12 eX0_takeSky_15 rfl hT hA ⟨by decide, by decide⟩ rfl rfl ?_
    refine z_ldcS (t := 12) eX0_takeSky_18 rfl rfl rfl (by rw [(hS 12 _ rfl).1]) ?_
    refine z_V1 eX0_takeSky_20 vX0_76 rfl rfl (Nat.le_of_ble_eq_true rfl) (Nat.le_of_ble_eq_true rfl) ((WdAt.a).L0 hT (by decide)) (c_X10_takeWord hT hX ⟨by omega, by omega⟩ hS (t := 12) (wd := qw_dry) (n := 3) rfl rfl (by decide)) ?_
    refine z_ifk_eq (tgt := 28) eX0_takeSky_23 rfl (fun h23 => ?_) (fun h23 => ?_)
    · refine z_al0 eX0_takeSky_28 hne ?_
      first | refine z_ta0 lX0_12 eX0_takeSky_29 rfl hT hA (by decide) rfl rfl ?_ | refine z_ta lX0_12 eX0_takeSky_29 rfl hT hA ⟨by decide, by decide⟩ rfl rfl ?_
      refine z_ldcS (t := 13) eX0_takeSky_32 rfl rfl rfl (by rw [(hS 13 _ rfl).1]) ?_
      refine z_V1 eX0_takeSky_34 vX0_76 rfl rfl (Nat.le_of_ble_eq_true rfl) (Nat.le_of_ble_eq_true rfl) ((WdAt.a).L0 hT (by decide)) (c_X10_takeWord hT hX ⟨by omega, by omega⟩ hS (t := 13) (wd := qw_drizzle) (n := 7) rfl rfl (by decide)) ?_
      refine z_ifk_eq (tgt := 42) eX0_takeSky_37 rfl (fun h37 => ?_) (fun h37 => ?_)
      · refine z_al0 eX0_takeSky_42 hne ?_
        first | refine z_ta0 lX0_12 eX0_takeSky_43 rfl hT hA (by decide) rfl rfl ?_ | refine z_ta lX0_12 eX0_takeSky_43 rfl hT hA ⟨by decide, by decide⟩ rfl rfl ?_
        refine z_ldcS (t := 14) eX0_takeSky_46 rfl rfl rfl (by rw [(hS 14 _ rfl).1]) ?_
        refine z_V1 eX0_takeSky_48 vX0_76 rfl rfl (Nat.le_of_ble_eq_true rfl) (Nat.le_of_ble_eq_true rfl) ((WdAt.a).L0 hT (by decide)) (c_X10_takeWord hT hX ⟨by omega, by omega⟩ hS (t := 14) (wd := qw_fog) (n := 3) rfl rfl (by decide)) ?_
        refine z_ifk_eq (tgt := 56) eX0_takeSky_51 rfl (fun h51 => ?_) (fun h51 => ?_)
        · refine z_al0 eX0_takeSky_56 hne ?_
          first | refine z_ta0 lX0_12 eX0_takeSky_57 rfl hT hA (by decide) rfl rfl ?_ | refine z_ta lX0_12 eX0_takeSky_57 rfl hT hA ⟨by decide, by decide⟩ rfl rfl ?_
          refine z_ldcS (t := 15) eX0_takeSky_60 rfl rfl rfl (by rw [(hS 15 _ rfl).1]) ?_
          refine z_V1 eX0_takeSky_62 vX0_76 rfl rfl (Nat.le_of_ble_eq_true rfl) (Nat.le_of_ble_eq_true rfl) ((WdAt.a).L0 hT (by decide)) (c_X10_takeWord hT hX ⟨by omega, by omega⟩ hS (t := 15) (wd := qw_downpour) (n := 8) rfl rfl (by decide)) ?_
          refine z_ifk_eq (tgt := 70) eX0_takeSky_65 rfl (fun h65 => ?_) (fun h65 => ?_)
          · refine z_al0 eX0_takeSky_70 hne ?_
            first | refine z_ta0 lX0_12 eX0_takeSky_71 rfl hT hA (by decide) rfl rfl ?_ | refine z_ta lX0_12 eX0_takeSky_71 rfl hT hA ⟨by decide, by decide⟩ rfl rfl ?_
            refine z_V0 eX0_takeSky_74 vX0_44 rfl rfl (Nat.le_of_ble_eq_true rfl) (Nat.le_of_ble_eq_true rfl) ((WdAt.a).L0 hT (by decide)) (c_X10_fail hT hX ⟨by omega, by omega⟩ (by decide)) ?_
            rw [if_pos rfl]
            refine z_pop eX0_takeSky_77 (Nat.ne_of_beq_eq_false rfl) ?_
            refine z_iconst eX0_takeSky_78 ?_
            refine z_ireturn eX0_takeSky_79 rfl ?_
            rw [show qSky T e a (-1) = (0, qscan qbl T e a, qscan qbl T e a) by unfold qSky; rw [if_pos rfl, zif_f h9, zif_f h23, zif_f h37, zif_f h51, zif_f h65]]
            dsimp only
            rw [if_neg (by omega), if_neg (by omega)]; exact ⟨rfl, rfl, rfl, rfl⟩
          · have hw65 := qhas_pos (wd := qw_downpour) (n := 8) h65 rfl (by decide) ⟨by omega, by omega⟩
            refine z_iconst eX0_takeSky_68 ?_
            refine z_ireturn eX0_takeSky_69 rfl ?_
            rw [show qSky T e a (-1) = (4, qscan qbl T e a + 8, -1) by unfold qSky; rw [if_pos rfl, zif_f h9, zif_f h23, zif_f h37, zif_f h51, zif_t h65]]
            rw [if_pos rfl, if_pos rfl]; exact ⟨rfl, rfl, rfl, rfl⟩
        · have hw51 := qhas_pos (wd := qw_fog) (n := 3) h51 rfl (by decide) ⟨by omega, by omega⟩
          refine z_iconst eX0_takeSky_54 ?_
          refine z_ireturn eX0_takeSky_55 rfl ?_
          rw [show qSky T e a (-1) = (3, qscan qbl T e a + 3, -1) by unfold qSky; rw [if_pos rfl, zif_f h9, zif_f h23, zif_f h37, zif_t h51]]
          rw [if_pos rfl, if_pos rfl]; exact ⟨rfl, rfl, rfl, rfl⟩
      · have hw37 := qhas_pos (wd := qw_drizzle) (n := 7) h37 rfl (by decide) ⟨by omega, by omega⟩
        refine z_iconst eX0_takeSky_40 ?_
        refine z_ireturn eX0_takeSky_41 rfl ?_
        rw [show qSky T e a (-1) = (2, qscan qbl T e a + 7, -1) by unfold qSky; rw [if_pos rfl, zif_f h9, zif_f h23, zif_t h37]]
        rw [if_pos rfl, if_pos rfl]; exact ⟨rfl, rfl, rfl, rfl⟩
    · have hw23 := qhas_pos (wd := qw_dry) (n := 3) h23 rfl (by decide) ⟨by omega, by omega⟩
      refine z_iconst eX0_takeSky_26 ?_
      refine z_ireturn eX0_takeSky_27 rfl ?_
      rw [show qSky T e a (-1) = (1, qscan qbl T e a + 3, -1) by unfold qSky; rw [if_pos rfl, zif_f h9, zif_t h23]]
      rw [if_pos rfl, if_pos rfl]; exact ⟨rfl, rfl, rfl, rfl⟩
  · have hw9 := qhas_pos (wd := qw_sun) (n := 3) h9 rfl (by decide) ⟨by omega, by omega⟩
    refine z_iconst eX0_takeSky_12 ?_
    refine z_ireturn eX0_takeSky_13 rfl ?_
    rw [show qSky T e a (-1) = (0, qscan qbl T e a + 3, -1) by unfold qSky; rw [if_pos rfl, zif_t h9]]
    rw [if_pos rfl, if_pos rfl]; exact ⟨rfl, rfl, rfl, rfl⟩
section ZTKS
variable {G : zG} {k : zK} {D pc pc' idx : Nat} {Q : zQ} {L st : List zAV} {lay : zLay} {σ C0 : zMem} {nx x e a : Int} {T : Int → Int} {bb : Nat × Nat} {own : String}
theorem z_tks (hd : zD k pc (.invokevirtual idx) 3 pc') (hf : zVc own idx KX0_takeSky 0 0) (hw : own = k.1.cls) (hk : k.2.2.2.2 = []) (hD : 8 + 1 ≤ D) (hst : st.length ≤ 4) (hT : TopL lay x) (hX : TxC x σ 274 T e) (hS : TxS lay C0) (ha : 0 ≤ a ∧ a ≤ e)
    (wt : ∀ F : Int × Int × Int, qSky T e a (-1) = F → F.2.2 = -1 → 0 ≤ F.1 ∧ F.1 ≤ 4 → 0 ≤ F.2.1 ∧ F.2.1 ≤ e → zW G k D Q pc' L (zI F.1 :: st) lay (tC x (zTk σ 274 T e F.2.1 (-1)) C0) nx bb)
    (wf : ∀ F : Int × Int × Int, qSky T e a (-1) = F → F.2.2 = qscan qbl T e a → 0 ≤ F.2.2 → zW G k D Q pc' L (zI (-1) :: st) lay (tC x (zTk σ 274 T e a F.2.2) C0) nx bb) : zW G k D Q pc L (zP (x + 273) :: st) lay (tC x (zTk σ 274 T e a (-1)) C0) nx bb := by
  have he := hX.e0
  have hq := qSky_bd (T := T) (e := e) (a := a) (f := -1) ⟨ha.1, ha.2, by decide, by decide⟩ he.2
  have hsk := qskip_bd (T := T) ha.2
  obtain ⟨F, hF⟩ : ∃ F, qSky T e a (-1) = F := ⟨_, rfl⟩
  refine z_V0 hd hf hw hk hD hst ((CxAt).L0 hT (by decide)) (c_X0_takeSky hT hX ha hS) ?_
  rw [hF] at hq ⊢
  by_cases h : F.2.2 = -1
  · rw [if_pos h, if_pos h, h]
    exact wt F hF h hq.2.2 ⟨hq.1.1, hq.1.2.1⟩
  · have h2 : F.2.2 = qscan qbl T e a := by
      rw [← hF] at h ⊢
      unfold qSky at h ⊢
      rw [if_pos rfl] at h ⊢
      by_cases z1 : qhas T e (qscan qbl T e a) qw_sun
      · rw [zif_t z1] at h; exact absurd rfl h
      · rw [zif_f z1] at h ⊢
        by_cases z2 : qhas T e (qscan qbl T e a) qw_dry
        · rw [zif_t z2] at h; exact absurd rfl h
        · rw [zif_f z2] at h ⊢
          by_cases z3 : qhas T e (qscan qbl T e a) qw_drizzle
          · rw [zif_t z3] at h; exact absurd rfl h
          · rw [zif_f z3] at h ⊢
            by_cases z4 : qhas T e (qscan qbl T e a) qw_fog
            · rw [zif_t z4] at h; exact absurd rfl h
            · rw [zif_f z4] at h ⊢
              by_cases z5 : qhas T e (qscan qbl T e a) qw_downpour
              · rw [zif_t z5] at h; exact absurd rfl h
              · rw [zif_f z5]
    rw [if_neg h, if_neg h]
    exact wf F hF h2 (by omega)
end ZTKS
theorem zsum_bd5 {f : Int → Int} (h : ∀ i : Int, 0 ≤ i → i < 5 → -48 ≤ f i ∧ f i ≤ 255) : -240 ≤ zsum f 5 ∧ zsum f 5 ≤ 1275 := by
  have e : zsum f 5 = f 0 + f 1 + f 2 + f 3 + f 4 := by
    rw [show (5 : Int) = 0 + 1 + 1 + 1 + 1 + 1 by decide, zsum_s _ (by decide), zsum_s _ (by decide), zsum_s _ (by decide), zsum_s _ (by decide), zsum_s _ (by decide), zsum_0, Int.zero_add]
    rfl
  have h0 := h 0 (by decide) (by decide)
  have h1 := h 1 (by decide) (by decide)
  have h2 := h 2 (by decide) (by decide)
  have h3 := h 3 (by decide) (by decide)
  have h4 := h 4 (by decide) (by decide)
  omega
theorem qRow_x {T : Int → Int} {e m p a f : Int} (h : f ≠ -1) : qRow T e m p a f = (a, a, f) := by unfold qRow; rw [if_neg h]
theorem qSkyLine_e {T : Int → Int} {e a f : Int} {M : Int → Int} {r w : Int × Int × Int} (hr : qSky T e a f = r) (hw : qRow T e 5 9 r.2.1 r.2.2 = w) : qSkyLine T e M a f = (if (if w.2.2 = -1 ∧ zsum (fun t => T (w.1 + t) - 48) 5 = 0 then w.1 else w.2.2) = -1 then qSky5 T M r.1 w.1 5 else M, w.2.1, if w.2.2 = -1 ∧ zsum (fun t => T (w.1 + t) - 48) 5 = 0 then w.1 else w.2.2) := by
  subst hw hr
  rfl
def qFgv (T : Int → Int) (e b i : Int) : Int := if 0 ≤ i ∧ b + i < qStop T e b then T (b + i) - 48 else 0
theorem c_X0_readSky {G : zG} {lay : zLay} {s C0 : zMem} {nx x e a : Int} {T M : Int → Int} (hT : TopL lay x) (hX : TxC x s 274 T e) (ha : 0 ≤ a ∧ a ≤ e) (hN : CoN s 276 M) (hM : zOC M) (hS : TxS lay C0)  : zMM G 9 KX0_readSky [zP (x + 273)] lay (tC x (zTk s 274 T e a (-1)) C0) nx (0, 0) (zZ' (some (zI (zbi ((qSkyLine T e M a (-1)).2.2 = -1)))) (zRdC s T e (qSkyLine T e M a (-1))) lay C0 nx x) := by
  refine z_met' (L := [zP (x + 273), zU, zU, zU]) gX0_readSky.1 rfl rfl (Nat.le_of_ble_eq_true rfl) rfl ?_
  have hA := CxAt
  have hD := isCo.draft
  have hx := hT.1
  have hne : x + 273 ≠ -1 := by omega
  have he := hX.e0
  have hI := hM.I
  have hm3 := hI.m3
  have hm4 := hI.m4
  have hbd := qskip_bd (T := T) ha.2
  obtain ⟨Q, hQ⟩ : ∃ Q, zZ' (some (zI (zbi ((qSkyLine T e M a (-1)).2.2 = -1)))) (zRdC s T e (qSkyLine T e M a (-1))) lay C0 nx x = Q := ⟨_, rfl⟩
  have w16 : ∀ F : Int × Int × Int, qSky T e a (-1) = F → F.2.2 = -1 → 0 ≤ F.1 ∧ F.1 ≤ 4 → 0 ≤ F.2.1 ∧ F.2.1 ≤ e → ∀ i : Int, 0 ≤ i → i ≤ 5 → ∀ S : zMem, zOut (276 + 5) 1 s S → (∀ j, S (276 + 4 + 1) j = if 5 * F.1 ≤ j ∧ j < 5 * F.1 + i then qFgv T e (qscan qbl T e F.2.1) (j - 5 * F.1) else s (276 + 4 + 1) j) → zW G KX0_readSky 9 Q 16 [zP (x + 273), zI F.1, zI (zsum (qFgv T e (qscan qbl T e F.2.1)) i), zI i] [] lay (tC x (zTk S 274 T e F.2.1 (-1)) C0) nx (0, 0) := by
    intro F hF hF1 hF2 hF3
    have hbd := qskip_bd (T := T) hF3.2
    obtain ⟨b, hb⟩ : ∃ b, qscan qbl T e F.2.1 = b := ⟨_, rfl⟩
    rw [hb] at hbd ⊢
    have hfv : ∀ i : Int, 0 ≤ i → i < 5 → -48 ≤ qFgv T e b i ∧ qFgv T e b i ≤ 255 := by
      intro i i0 i1
      unfold qFgv
      have hss : qStop T e b ≤ 401 := by
        unfold qStop
        have h1 := qscan_bd (P := qlet) (T := T) (e := e) (k := b + 1)
        have h2 := qscan_bd (P := qdig) (T := T) (e := e) (k := b + 1)
        (repeat' split) <;> omega
      split
      · by_cases c : b + i < 400
        · have := hX.bt (b + i) (by omega) c; omega
        · exfalso
          unfold qStop at *
          have h1 := qscan_bd (P := qlet) (T := T) (e := e) (k := b + 1)
          have h2 := qscan_bd (P := qdig) (T := T) (e := e) (k := b + 1)
          rename_i z
          have z2 := z.2
          (repeat' split at z2) <;> omega
      · omega
    have hrow : qRow T e 5 9 F.2.1 F.2.2 = zif (qscan qdig T e b = b + 5 ∧ qmost T b 5 9) (b, b + 5, -1) (b, b, b) := by
      unfold qRow
      rw [if_pos hF1, hb]
    have hfa : ¬ (qscan qdig T e b = b + 5 ∧ qmost T b 5 9) → qSkyLine T e M a (-1) = (M, b, b) := by
      intro z
      rw [zif_f z] at hrow
      rw [qSkyLine_e hF hrow]
      have hg : (if b = -1 ∧ zsum (fun t => T (b + t) - 48) 5 = 0 then b else b) = b := by split <;> rfl
      show (if (if b = -1 ∧ zsum (fun t => T (b + t) - 48) 5 = 0 then b else b) = -1 then qSky5 T M F.1 b 5 else M, b, if b = -1 ∧ zsum (fun t => T (b + t) - 48) 5 = 0 then b else b) = _
      rw [hg, if_neg (by omega)]
    have hst : (qscan qdig T e b = b + 5 ∧ qmost T b 5 9) → qStop T e b = b + 5 := by
      intro z
      have z1 := z.1
      by_cases c : b < e
      · by_cases c2 : qdig (T b) = true
        · rw [qStop_dig c c2]; exact z1
        · rw [qscan_f c c2] at z1; omega
      · rw [qscan_ge (by omega)] at z1; omega
    have hsm : (qscan qdig T e b = b + 5 ∧ qmost T b 5 9) → zsum (qFgv T e b) 5 = zsum (fun t => T (b + t) - 48) 5 := by
      intro z
      refine zsum_congr (fun t t0 t1 => ?_)
      unfold qFgv
      rw [hst z, if_pos ⟨t0, by omega⟩]
    have hz0 : (qscan qdig T e b = b + 5 ∧ qmost T b 5 9) → zsum (qFgv T e b) 5 = 0 → qSkyLine T e M a (-1) = (M, b + 5, b) := by
      intro z z2
      rw [hsm z] at z2
      rw [zif_t z] at hrow
      rw [qSkyLine_e hF hrow]
      have hg : (if (-1 : Int) = -1 ∧ zsum (fun t => T (b + t) - 48) 5 = 0 then b else -1) = b := if_pos ⟨rfl, z2⟩
      show (if (if (-1 : Int) = -1 ∧ zsum (fun t => T (b + t) - 48) 5 = 0 then b else -1) = -1 then qSky5 T M F.1 b 5 else M, b + 5, if (-1 : Int) = -1 ∧ zsum (fun t => T (b + t) - 48) 5 = 0 then b else -1) = _
      rw [hg, if_neg (by omega)]
    have hz1 : (qscan qdig T e b = b + 5 ∧ qmost T b 5 9) → ¬ zsum (qFgv T e b) 5 = 0 → qSkyLine T e M a (-1) = (qSky5 T M F.1 b 5, b + 5, -1) := by
      intro z z2
      rw [hsm z] at z2
      rw [zif_t z] at hrow
      rw [qSkyLine_e hF hrow]
      have hg : (if (-1 : Int) = -1 ∧ zsum (fun t => T (b + t) - 48) 5 = 0 then b else -1) = -1 := if_neg (fun q => z2 q.2)
      show (if (if (-1 : Int) = -1 ∧ zsum (fun t => T (b + t) - 48) 5 = 0 then b else -1) = -1 then qSky5 T M F.1 b 5 else M, b + 5, if (-1 : Int) = -1 ∧ zsum (fun t => T (b + t) - 48) 5 = 0 then b else -1) = _
      rw [hg, if_pos rfl]
    refine z_up 5 ?_ ?_
    · intro S hS hw
      have hXS : TxC x S 274 T e := hX.out (hS _ (by decide)) (hS _ (by decide))
      have hsb := zsum_bd5 hfv
      rw [← hQ]
      refine z_il3 eX0_readSky_16 ?_
      refine z_iconst eX0_readSky_17 ?_
      refine z_icmp_ge (tgt := 62) eX0_readSky_18 rfl ⟨⟨by omega, by omega⟩, ⟨by omega, by omega⟩⟩ (fun h18 => ?_) (fun h18 => (by exfalso; omega))
      refine z_al0 eX0_readSky_62 hne ?_
      first | refine z_ta0 lX0_12 eX0_readSky_63 rfl hT hA (by decide) rfl rfl ?_ | refine z_ta lX0_12 eX0_readSky_63 rfl hT hA ⟨by decide, by decide⟩ rfl rfl ?_
      refine z_iconst eX0_readSky_66 ?_
      refine z_bipush eX0_readSky_67 (by decide) ?_
      refine z_V2 eX0_readSky_69 vX0_160 rfl rfl (Nat.le_of_ble_eq_true rfl) (Nat.le_of_ble_eq_true rfl) ((WdAt.a).L0 hT (by decide)) (c_X10_atFigures hT hXS ⟨by omega, by omega⟩ ⟨by omega, by omega⟩ ⟨by omega, by omega⟩) ?_
      rw [hb]
      refine z_ifb_eq (tgt := 79) eX0_readSky_72 rfl (fun h72 => ?_) (fun h72 => ?_)
      · refine z_al0 eX0_readSky_79 hne ?_
        first | refine z_ta0 lX0_12 eX0_readSky_80 rfl hT hA (by decide) rfl rfl ?_ | refine z_ta lX0_12 eX0_readSky_80 rfl hT hA ⟨by decide, by decide⟩ rfl rfl ?_
        refine z_V0 eX0_readSky_83 vX0_44 rfl rfl (Nat.le_of_ble_eq_true rfl) (Nat.le_of_ble_eq_true rfl) ((WdAt.a).L0 hT (by decide)) (c_X10_fail hT hXS ⟨by omega, by omega⟩ (by decide)) ?_
        rw [if_pos rfl]
        rw [hb]
        refine z_zreturn eX0_readSky_86 rfl (by first | exact Or.inl rfl | exact Or.inr rfl | exact zbi_01 _ | assumption | omega) ?_
        first | (rw [hfa h72]; exact zRdf rfl (by omega) (hS.sub ⟨by decide, by decide⟩)) | (rw [hz0 h72 (by omega)]; exact zRdf rfl (by omega) (hS.sub ⟨by decide, by decide⟩))
      · refine z_il2 eX0_readSky_75 ?_
        refine z_if_ne (tgt := 87) eX0_readSky_76 rfl ⟨by omega, by omega⟩ (fun h76 => ?_) (fun h76 => ?_)
        · refine z_al0 eX0_readSky_87 hne ?_
          first | refine z_ta0 lX0_12 eX0_readSky_88 rfl hT hA (by decide) rfl rfl ?_ | refine z_ta lX0_12 eX0_readSky_88 rfl hT hA ⟨by decide, by decide⟩ rfl rfl ?_
          have hs9 := hst h72
          rw [show zTk S 274 T e F.2.1 (-1) = zWd S 274 (-1) b (b + 5) (qKind T e b) by unfold zTk; rw [hb, hs9]]
          refine z_V0v eX0_readSky_91 vX0_134 rfl rfl (Nat.le_of_ble_eq_true rfl) (Nat.le_of_ble_eq_true rfl) ((WdAt.a).L0 hT (by decide)) (c_X10_advance hT hXS (s := b + 5) ⟨by omega, by have := qscan_bd (P := qdig) (T := T) (e := e) (k := b); have := h72.1; omega⟩) ?_
          refine z_iconst eX0_readSky_94 ?_
          refine z_zreturn eX0_readSky_95 rfl (by first | exact Or.inl rfl | exact Or.inr rfl | exact zbi_01 _ | assumption | omega) ?_
          rw [hz1 h72 (by omega)]
          refine zRdt rfl rfl (hS.sub ⟨by decide, by decide⟩) (by rw [hS _ (by decide)]) (hN.wea hI (hS.sub ⟨by decide, by decide⟩) (fun j hj => by show qSky5 T M F.1 b (5 : Nat) j = _; rw [qSky5_at, if_neg (by omega)]) ⟨⟨?_, ?_, ?_, ?_⟩, fun t t0 t1 => ?_⟩)
          · rw [hS _ (by decide)]; show _ = qSky5 T M F.1 b (5 : Nat) 5; rw [qSky5_at, if_neg (by omega)]; exact hN.we.1.1
          · rw [hS _ (by decide)]; show _ = qSky5 T M F.1 b (5 : Nat) 6; rw [qSky5_at, if_neg (by omega)]; exact hN.we.1.2.1
          · rw [hS _ (by decide)]; show _ = qSky5 T M F.1 b (5 : Nat) 7; rw [qSky5_at, if_neg (by omega)]; exact hN.we.1.2.2.1
          · rw [hS _ (by decide)]; show _ = qSky5 T M F.1 b (5 : Nat) 12; rw [qSky5_at, if_neg (by omega)]; exact hN.we.1.2.2.2
          · rw [hw t]; show _ = qSky5 T M F.1 b (5 : Nat) (13 + t)
            rw [qSky5_at]
            by_cases c : 5 * F.1 ≤ t ∧ t < 5 * F.1 + 5
            · rw [if_pos c, if_pos ⟨by omega, by omega⟩]; unfold qFgv; rw [hst h72, if_pos ⟨by omega, by omega⟩, show b + (t - 5 * F.1) = b + (13 + t - (13 + 5 * F.1)) by omega]
            · rw [if_neg c, if_neg (fun q => by omega)]; exact hN.we.2 t t0 t1
        · refine z_al0 eX0_readSky_79 hne ?_
          first | refine z_ta0 lX0_12 eX0_readSky_80 rfl hT hA (by decide) rfl rfl ?_ | refine z_ta lX0_12 eX0_readSky_80 rfl hT hA ⟨by decide, by decide⟩ rfl rfl ?_
          refine z_V0 eX0_readSky_83 vX0_44 rfl rfl (Nat.le_of_ble_eq_true rfl) (Nat.le_of_ble_eq_true rfl) ((WdAt.a).L0 hT (by decide)) (c_X10_fail hT hXS ⟨by omega, by omega⟩ (by decide)) ?_
          rw [if_pos rfl]
          rw [hb]
          refine z_zreturn eX0_readSky_86 rfl (by first | exact Or.inl rfl | exact Or.inr rfl | exact zbi_01 _ | assumption | omega) ?_
          first | (rw [hfa h72]; exact zRdf rfl (by omega) (hS.sub ⟨by decide, by decide⟩)) | (rw [hz0 h72 (by omega)]; exact zRdf rfl (by omega) (hS.sub ⟨by decide, by decide⟩))
    · intro i i0 i1 ih S hS hw
      have hXS : TxC x S 274 T e := hX.out (hS _ (by decide)) (hS _ (by decide))
      have hX2 : ∀ v, TxC x (zset S (276 + 4 + 1) (F.1 * 5 + i) v) 274 T e := fun v => hXS.out (zset_o (by decide)) (zset_o (by decide))
      refine z_il3 eX0_readSky_16 ?_
      refine z_iconst eX0_readSky_17 ?_
      refine z_icmp_ge (tgt := 62) eX0_readSky_18 rfl ⟨⟨by omega, by omega⟩, ⟨by omega, by omega⟩⟩ (fun h18 => (by exfalso; omega)) (fun h18 => ?_)
      refine z_al0 eX0_readSky_21 hne ?_
      first | refine z_ta0 lX0_21 eX0_readSky_22 rfl hT hA (by decide) rfl rfl ?_ | refine z_ta lX0_21 eX0_readSky_22 rfl hT hA ⟨by decide, by decide⟩ rfl rfl ?_
      first | refine z_ta0 lX0_84 eX0_readSky_25 rfl hT hD (by decide) rfl rfl ?_ | refine z_ta lX0_84 eX0_readSky_25 rfl hT hD ⟨by decide, by decide⟩ rfl rfl ?_
      first | refine z_ta0 lX0_185 eX0_readSky_28 rfl hT hD.we (by decide) rfl rfl ?_ | refine z_ta lX0_185 eX0_readSky_28 rfl hT hD.we ⟨by decide, by decide⟩ rfl rfl ?_
      refine z_il1 eX0_readSky_31 ?_
      refine z_iconst eX0_readSky_32 ?_
      refine z_imul eX0_readSky_33 ?_
      refine z_il3 eX0_readSky_34 ?_
      refine z_iadd eX0_readSky_35 ?_
      refine z_al0 eX0_readSky_36 hne ?_
      first | refine z_ta0 lX0_12 eX0_readSky_37 rfl hT hA (by decide) rfl rfl ?_ | refine z_ta lX0_12 eX0_readSky_37 rfl hT hA ⟨by decide, by decide⟩ rfl rfl ?_
      refine z_il3 eX0_readSky_40 ?_
      refine z_V1 eX0_readSky_41 vX0_171 rfl rfl (Nat.le_of_ble_eq_true rfl) (Nat.le_of_ble_eq_true rfl) ((WdAt.a).L0 hT (by decide)) (c_X10_figure hT hXS ⟨by omega, by omega⟩ ⟨by omega, by omega⟩) ?_
      rw [hb]; change zW _ _ _ _ _ _ (zI (qFgv T e b i) :: _) _ _ _ _
      refine z_ts eX0_readSky_44 hT hD.we ⟨by decide, by decide⟩ rfl rfl ⟨by omega, by omega⟩ ?_
      rw [zTk_so (by decide)]
      refine z_il2 eX0_readSky_45 ?_
      refine z_al0 eX0_readSky_46 hne ?_
      first | refine z_ta0 lX0_12 eX0_readSky_47 rfl hT hA (by decide) rfl rfl ?_ | refine z_ta lX0_12 eX0_readSky_47 rfl hT hA ⟨by decide, by decide⟩ rfl rfl ?_
      refine z_il3 eX0_readSky_50 ?_
      refine z_V1 eX0_readSky_51 vX0_171 rfl rfl (Nat.le_of_ble_eq_true rfl) (Nat.le_of_ble_eq_true rfl) ((WdAt.a).L0 hT (by decide)) (c_X10_figure hT (hX2 _) ⟨by omega, by omega⟩ ⟨by omega, by omega⟩) ?_
      rw [hb]; change zW _ _ _ _ _ _ (zI (qFgv T e b i) :: _) _ _ _ _
      refine z_iadd eX0_readSky_54 ?_
      refine z_is2 eX0_readSky_55 (Nat.ne_of_beq_eq_false rfl) ?_
      refine z_ii3 eX0_readSky_56 (Nat.ne_of_beq_eq_false rfl) ?_
      refine z_goto eX0_readSky_59 (tgt := 16) rfl ?_
      rw [zsum_s _ i0] at ih
      refine ih _ (hS.set ⟨by decide, by decide⟩) (fun j => ?_)
      rw [zset_at]
      by_cases c : j = F.1 * 5 + i
      · rw [if_pos ⟨rfl, c⟩, if_pos (by omega), show j - 5 * F.1 = i by omega]
      · rw [if_neg (fun q => c q.2), hw j]
        by_cases c2 : 5 * F.1 ≤ j ∧ j < 5 * F.1 + i
        · rw [if_pos c2, if_pos (by omega)]
        · rw [if_neg c2, if_neg (fun q => by omega)]
  rw [hQ]
  refine z_al0 eX0_readSky_0 hne ?_
  refine z_tks eX0_readSky_1 vX0_88 rfl rfl (Nat.le_of_ble_eq_true rfl) (Nat.le_of_ble_eq_true rfl) hT hX hS ⟨by omega, by omega⟩ (fun F1 hF1 hG1 hB1 hP1 => ?_) (fun F1 hF1 hG1 hB1 => ?_)
  · refine z_is1 eX0_readSky_4 (Nat.ne_of_beq_eq_false rfl) ?_
    refine z_il1 eX0_readSky_5 ?_
    refine z_iconst eX0_readSky_6 ?_
    refine z_icmp_ne (tgt := 12) eX0_readSky_7 rfl ⟨⟨by omega, by omega⟩, ⟨by omega, by omega⟩⟩ (fun h7 => ?_) (fun h7 => (by exfalso; omega))
    refine z_iconst eX0_readSky_12 ?_
    refine z_is2 eX0_readSky_13 (Nat.ne_of_beq_eq_false rfl) ?_
    refine z_iconst eX0_readSky_14 ?_
    refine z_is3 eX0_readSky_15 (Nat.ne_of_beq_eq_false rfl) ?_
    exact w16 F1 hF1 hG1 hB1 hP1 0 (by decide) (by decide) s (zOut.refl _ _ _) (fun j => by rw [if_neg (by omega)])
  · refine z_is1 eX0_readSky_4 (Nat.ne_of_beq_eq_false rfl) ?_
    refine z_il1 eX0_readSky_5 ?_
    refine z_iconst eX0_readSky_6 ?_
    refine z_icmp_ne (tgt := 12) eX0_readSky_7 rfl ⟨⟨by omega, by omega⟩, ⟨by omega, by omega⟩⟩ (fun h7 => (by exfalso; omega)) (fun h7 => ?_)
    refine z_iconst eX0_readSky_10 ?_
    refine z_zreturn eX0_readSky_11 rfl (by first | exact Or.inl rfl | exact Or.inr rfl | exact zbi_01 _ | assumption | omega) ?_
    rw [← hQ, show qSkyLine T e M a (-1) = (M, F1.2) by rw [qSkyLine_e hF1 (qRow_x (by omega))]; dsimp only; rw [if_neg (c := F1.2.2 = -1 ∧ _) (fun q => by omega), if_neg (by omega)]]
    exact zRdf rfl hB1 (zOut.refl _ _ _)
