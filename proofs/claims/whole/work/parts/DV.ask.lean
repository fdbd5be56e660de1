/-! What the cuffs tell. -/
theorem qWay_b {T M : Int → Int} {N c : Int} (t : Int) : 0 ≤ qWay T M N c 11 t ∧ qWay T M N c 11 t ≤ 48828125 := by
  have := qWay_bd T M N c 11 t
  rw [show ((5 ^ 11 : Nat) : Int) = 48828125 by decide] at this
  exact this
theorem qWay_sum {T M : Int → Int} {N c : Int} : 0 ≤ zsum (qWay T M N c 11) 5 ∧ zsum (qWay T M N c 11) 5 ≤ 48828125 * 5 := zsum_bnd (by decide) (fun t _ _ => qWay_b t)
theorem zOut.cu {s q : zMem} (h : zOut 305 2 s q) : zOut 304 3 s q := h.sub ⟨by omega, by omega⟩
noncomputable def qCufV (T M : Int → Int) (N w : Int) : Int := if w = 0 then qSkies (qWay T M N (-1) 11) else if 9999 < zsum (qWay T M N (-1) 11) 5 then 9999 else zsum (qWay T M N (-1) 11) 5
theorem c_X11_cuffs {G : zG} {lay : zLay} {σ C0 : zMem} {nx x : Int} (hT : TopL lay x) {w : Int} {M : Int → Int} (hR : CoR lay x C0 σ (0 + 2) M) (hM : zOC M) (ht : 0 ≤ σ 0 1 ∧ σ 0 1 ≤ 400) (hb : ∀ i, 0 ≤ i → i < 400 → 0 ≤ σ 1 i ∧ σ 1 i ≤ 255) (hw : w = 0 ∨ w = 1) : zMM G 8 KX11_cuffs [zP (x + 0), zI w] lay (tC x σ C0) nx (1, 6) (zTw (qCuffs (σ 1) M (σ 0 1)) (some (zI (qCufV (σ 1) M (σ 0 1) w))) zEa (fun s C => zRc σ C0 M s C) lay nx x) := by
  refine z_met' (L := [zP (x + 0), zI w, zU]) gX11_cuffs.1 rfl rfl (Nat.le_of_ble_eq_true rfl) rfl ?_
  have hA := TpAt
  have hx := hT.1
  have hne : x + 0 ≠ -1 := by omega
  have hD := isCo.now
  have hs5 := qWay_sum (T := σ 1) (M := M) (N := σ 0 1) (c := -1)
  unfold qCufV
  refine z_al0 eX11_cuffs_0 hne ?_
  refine z_V0w (n := 0) eX11_cuffs_1 vX11_300 rfl rfl (Nat.le_of_ble_eq_true rfl) (Nat.le_of_ble_eq_true rfl) ((hA).L0 hT (by decide)) (c_X11_readCuffs hT hR hM ht hb) (fun s1 C1 hs1 hP1 => ?_) (fun s1 C1 hs1 hN1 => (by exact ⟨_, _, hs1.1, Or.inr ⟨hN1, rfl⟩, rfl, rfl, rfl⟩))
  have hR1 := hs1.1.R hR
  have ha := hs1.2 hP1
  refine z_al0 eX11_cuffs_4 hne ?_
  first | refine z_ta0 lX11_51 eX11_cuffs_5 rfl hT hA (by decide) rfl rfl ?_ | refine z_ta lX11_51 eX11_cuffs_5 rfl hT hA ⟨by decide, by decide⟩ rfl rfl ?_
  refine z_al0 eX11_cuffs_8 hne ?_
  first | refine z_ta0 lX11_20 eX11_cuffs_9 rfl hT hA (by decide) rfl rfl ?_ | refine z_ta lX11_20 eX11_cuffs_9 rfl hT hA ⟨by decide, by decide⟩ rfl rfl ?_
  first | refine z_ta0 lX11_194 eX11_cuffs_12 rfl hT hD (by decide) rfl rfl ?_ | refine z_ta lX11_194 eX11_cuffs_12 rfl hT hD ⟨by decide, by decide⟩ rfl rfl ?_
  first | refine z_ta0 lX11_198 eX11_cuffs_15 rfl hT hD.we (by decide) rfl rfl ?_ | refine z_ta lX11_198 eX11_cuffs_15 rfl hT hD.we ⟨by decide, by decide⟩ rfl rfl ?_
  refine z_V1z eX11_cuffs_18 vX11_303 rfl rfl (Nat.le_of_ble_eq_true rfl) (Nat.le_of_ble_eq_true rfl) ((CuAt).L0 hT (by decide)) (c_X2_countWays hT hD.we (by decide) hR1.1.we hM.I ha.all) (fun s18 hs18 => ?_)
  refine z_is2 eX11_cuffs_21 (Nat.ne_of_beq_eq_false rfl) ?_
  refine z_il1 eX11_cuffs_22 ?_
  refine z_if_eq (tgt := 36) eX11_cuffs_23 rfl ⟨by omega, by omega⟩ (fun h23 => ?_) (fun h23 => ?_)
  · refine z_al0 eX11_cuffs_36 hne ?_
    first | refine z_ta0 lX11_51 eX11_cuffs_37 rfl hT hA (by decide) rfl rfl ?_ | refine z_ta lX11_51 eX11_cuffs_37 rfl hT hA ⟨by decide, by decide⟩ rfl rfl ?_
    refine z_V0 eX11_cuffs_40 vX11_312 rfl rfl (Nat.le_of_ble_eq_true rfl) (Nat.le_of_ble_eq_true rfl) ((CuAt).L0 hT (by decide)) (c_X2_skiesNow hT (fun t t0 t1 => by rw [hs18.2 t t0 t1]; have := qWay_b (T := σ 1) (M := M) (N := σ 0 1) (c := -1) t; exact ⟨by omega, by omega⟩)) ?_
    try rw [qSkies_c hs18.2]
    refine z_ireturn eX11_cuffs_43 rfl ?_
    refine ⟨_, _, hs1.1.cu hs18.1.cu, Or.inl ⟨hP1, ?_⟩, rfl, rfl, rfl⟩
    first | rw [if_pos (show w = 0 by omega)] | rw [if_neg (show ¬ w = 0 by omega)]
  · refine z_il2 eX11_cuffs_26 ?_
    refine z_sipush eX11_cuffs_27 (by decide) ?_
    refine z_min eX11_cuffs_30 vX11_307 rfl (Nat.le_of_ble_eq_true rfl) (Nat.le_of_ble_eq_true rfl) ⟨⟨by omega, by omega⟩, ⟨by omega, by omega⟩⟩ ?_
    refine z_goto eX11_cuffs_33 (tgt := 43) rfl ?_
    try rw [qSkies_c hs18.2]
    refine z_ireturn eX11_cuffs_43 rfl ?_
    refine ⟨_, _, hs1.1.cu hs18.1.cu, Or.inl ⟨hP1, ?_⟩, rfl, rfl, rfl⟩
    first | rw [if_pos (show w = 0 by omega)] | rw [if_neg (show ¬ w = 0 by omega)]
theorem c_X11_likely {G : zG} {lay : zLay} {σ C0 : zMem} {nx x : Int} (hT : TopL lay x) {M : Int → Int} (hR : CoR lay x C0 σ (0 + 2) M) (hM : zOC M) (ht : 0 ≤ σ 0 1 ∧ σ 0 1 ≤ 400) (hb : ∀ i, 0 ≤ i → i < 400 → 0 ≤ σ 1 i ∧ σ 1 i ≤ 255) : zMM G 8 KX11_likely [zP (x + 0)] lay (tC x σ C0) nx (1, 6) (zTw (qCuffs (σ 1) M (σ 0 1)) (some (zI (qMax (qWay (σ 1) M (σ 0 1) (-1) 11) (-1) 0 5).1)) zEa (fun s C => zRc σ C0 M s C) lay nx x) := by
  refine z_met' (L := [zP (x + 0), zU, zU, zU]) gX11_likely.1 rfl rfl (Nat.le_of_ble_eq_true rfl) rfl ?_
  have hA := TpAt
  have hx := hT.1
  have hne : x + 0 ≠ -1 := by omega
  have hD := isCo.now
  have hl : ∀ (S C : zMem) (Q : zQ), Q (.inl (some (zI (qMax (qWay (σ 1) M (σ 0 1) (-1) 11) (-1) 0 5).1))) lay (tC x S C) nx → (∀ t, 0 ≤ t → t < 5 → S (0 + 303 + 2) t = qWay (σ 1) M (σ 0 1) (-1) 11 t) → ∀ t : Int, 0 ≤ t → t ≤ 5 → zW G KX11_likely 8 Q 28 [zP (x + 0), zI (qMax (qWay (σ 1) M (σ 0 1) (-1) 11) (-1) 0 t).2, zI (qMax (qWay (σ 1) M (σ 0 1) (-1) 11) (-1) 0 t).1, zI t] [] lay (tC x S C) nx (0, 0) := by
    intro S C Q hq hS
    refine z_up 5 ?_ ?_
    · skip
      refine z_il3 eX11_likely_28 ?_
      refine z_iconst eX11_likely_29 ?_
      refine z_icmp_ge (tgt := 64) eX11_likely_30 rfl ⟨⟨by omega, by omega⟩, ⟨by omega, by omega⟩⟩ (fun h30 => ?_) (fun h30 => (by exfalso; omega))
      refine z_il2 eX11_likely_64 ?_
      refine z_ireturn eX11_likely_65 rfl ?_
      exact hq
    · intro t t0 t1 ih
      have hw := qWay_b (T := σ 1) (M := M) (N := σ 0 1) (c := -1) t
      have hm := qMax_bd (f := qWay (σ 1) M (σ 0 1) (-1) 11) (f0 := -1) (m0 := 0) (c := 48828125) (by decide) t t0 (fun j _ _ => (qWay_b j).2)
      have e8 := hS t t0 t1
      rw [qMax_s _ _ _ t0] at ih
      refine z_il3 eX11_likely_28 ?_
      refine z_iconst eX11_likely_29 ?_
      refine z_icmp_ge (tgt := 64) eX11_likely_30 rfl ⟨⟨by omega, by omega⟩, ⟨by omega, by omega⟩⟩ (fun h30 => (by exfalso; omega)) (fun h30 => ?_)
      refine z_al0 eX11_likely_33 hne ?_
      first | refine z_ta0 lX11_51 eX11_likely_34 rfl hT hA (by decide) rfl rfl ?_ | refine z_ta lX11_51 eX11_likely_34 rfl hT hA ⟨by decide, by decide⟩ rfl rfl ?_
      first | refine z_ta0 lX11_315 eX11_likely_37 rfl hT CuAt (by decide) rfl rfl ?_ | refine z_ta lX11_315 eX11_likely_37 rfl hT CuAt ⟨by decide, by decide⟩ rfl rfl ?_
      refine z_il3 eX11_likely_40 ?_
      refine z_tl eX11_likely_41 hT CuAt ⟨by decide, by decide⟩ rfl rfl ⟨by omega, by omega⟩ ?_
      refine z_il1 eX11_likely_42 ?_
      rw [e8]
      refine z_icmp_le (tgt := 58) eX11_likely_43 rfl ⟨⟨by omega, by omega⟩, ⟨by omega, by omega⟩⟩ (fun h43 => ?_) (fun h43 => ?_)
      · refine z_ii3 eX11_likely_58 (Nat.ne_of_beq_eq_false rfl) ?_
        refine z_goto eX11_likely_61 (tgt := 28) rfl ?_
        first | (rw [if_pos (by omega)] at ih; exact ih) | (rw [if_neg (by omega)] at ih; exact ih) | fail
      · refine z_al0 eX11_likely_46 hne ?_
        first | refine z_ta0 lX11_51 eX11_likely_47 rfl hT hA (by decide) rfl rfl ?_ | refine z_ta lX11_51 eX11_likely_47 rfl hT hA ⟨by decide, by decide⟩ rfl rfl ?_
        first | refine z_ta0 lX11_315 eX11_likely_50 rfl hT CuAt (by decide) rfl rfl ?_ | refine z_ta lX11_315 eX11_likely_50 rfl hT CuAt ⟨by decide, by decide⟩ rfl rfl ?_
        refine z_il3 eX11_likely_53 ?_
        refine z_tl eX11_likely_54 hT CuAt ⟨by decide, by decide⟩ rfl rfl ⟨by omega, by omega⟩ ?_
        rw [e8]
        refine z_is1 eX11_likely_55 (Nat.ne_of_beq_eq_false rfl) ?_
        refine z_il3 eX11_likely_56 ?_
        refine z_is2 eX11_likely_57 (Nat.ne_of_beq_eq_false rfl) ?_
        refine z_ii3 eX11_likely_58 (Nat.ne_of_beq_eq_false rfl) ?_
        refine z_goto eX11_likely_61 (tgt := 28) rfl ?_
        first | (rw [if_pos (by omega)] at ih; exact ih) | (rw [if_neg (by omega)] at ih; exact ih) | fail
  refine z_al0 eX11_likely_0 hne ?_
  refine z_V0w (n := 0) eX11_likely_1 vX11_300 rfl rfl (Nat.le_of_ble_eq_true rfl) (Nat.le_of_ble_eq_true rfl) ((hA).L0 hT (by decide)) (c_X11_readCuffs hT hR hM ht hb) (fun s1 C1 hs1 hP1 => ?_) (fun s1 C1 hs1 hN1 => (by exact ⟨_, _, hs1.1, Or.inr ⟨hN1, rfl⟩, rfl, rfl, rfl⟩))
  have hR1 := hs1.1.R hR
  have ha := hs1.2 hP1
  refine z_al0 eX11_likely_4 hne ?_
  first | refine z_ta0 lX11_51 eX11_likely_5 rfl hT hA (by decide) rfl rfl ?_ | refine z_ta lX11_51 eX11_likely_5 rfl hT hA ⟨by decide, by decide⟩ rfl rfl ?_
  refine z_al0 eX11_likely_8 hne ?_
  first | refine z_ta0 lX11_20 eX11_likely_9 rfl hT hA (by decide) rfl rfl ?_ | refine z_ta lX11_20 eX11_likely_9 rfl hT hA ⟨by decide, by decide⟩ rfl rfl ?_
  first | refine z_ta0 lX11_194 eX11_likely_12 rfl hT hD (by decide) rfl rfl ?_ | refine z_ta lX11_194 eX11_likely_12 rfl hT hD ⟨by decide, by decide⟩ rfl rfl ?_
  first | refine z_ta0 lX11_198 eX11_likely_15 rfl hT hD.we (by decide) rfl rfl ?_ | refine z_ta lX11_198 eX11_likely_15 rfl hT hD.we ⟨by decide, by decide⟩ rfl rfl ?_
  refine z_V1z eX11_likely_18 vX11_303 rfl rfl (Nat.le_of_ble_eq_true rfl) (Nat.le_of_ble_eq_true rfl) ((CuAt).L0 hT (by decide)) (c_X2_countWays hT hD.we (by decide) hR1.1.we hM.I ha.all) (fun s18 hs18 => ?_)
  refine z_pop eX11_likely_21 (Nat.ne_of_beq_eq_false rfl) ?_
  refine z_iconst eX11_likely_22 ?_
  refine z_is1 eX11_likely_23 (Nat.ne_of_beq_eq_false rfl) ?_
  refine z_iconst eX11_likely_24 ?_
  refine z_is2 eX11_likely_25 (Nat.ne_of_beq_eq_false rfl) ?_
  refine z_iconst eX11_likely_26 ?_
  refine z_is3 eX11_likely_27 (Nat.ne_of_beq_eq_false rfl) ?_
  exact hl _ _ _ ⟨_, _, hs1.1.cu hs18.1.cu, Or.inl ⟨hP1, rfl⟩, rfl, rfl, rfl⟩ hs18.2 0 (by decide) (by decide)
theorem zbit_4 : ∀ t : Nat, t < 5 → (zbit 4 (t : Nat) = 1 ↔ t = 2) := by decide +kernel
theorem zRa.ago {σ s : zMem} {M : Int → Int} {n : Int} (h : zRa σ M s) : ∀ a t, 0 ≤ a → a < 12 → 0 ≤ t → t < 5 → (zbit (zset s 304 n (zand (s 304 n) 4) 304 a) t = 1 ↔ ¬ qBad (σ 1) M (σ 0 1) n a t) := by
  intro a t a0 a1 t0 t1
  have h4 := zbit_4 t.toNat (by omega)
  rw [Int.toNat_of_nonneg t0] at h4
  unfold qBad
  by_cases e : a = n
  · subst e
    rw [zset_eq, zbit_and ⟨t0, by omega⟩, h a t a0 a1 t0 t1, h4]
    constructor
    · rintro ⟨z1, z2⟩ y
      rcases y with y | y
      · omega
      · exact y z1
    · intro z
      exact ⟨Classical.byContradiction (fun y => z (Or.inr y)), Classical.byContradiction (fun y => z (Or.inl ⟨rfl, by omega⟩))⟩
  · rw [zset_f e, h a t a0 a1 t0 t1]
    exact ⟨fun z y => by rcases y with y | y; exact e y.1; exact y z, fun z => Classical.byContradiction (fun y => z (Or.inr y))⟩
noncomputable def qAgoV (T M : Int → Int) (N n : Int) : Int := if zsum (qWay T M N (-1) 11) 5 = 0 then -1 else if zsum (qWay T M N n 11) 5 = zsum (qWay T M N (-1) 11) 5 then 1 else if zsum (qWay T M N n 11) 5 = 0 then 0 else -1
theorem c_X11_ago {G : zG} {lay : zLay} {σ C0 : zMem} {nx x : Int} (hT : TopL lay x) {n : Int} {M : Int → Int} (hR : CoR lay x C0 σ (0 + 2) M) (hM : zOC M) (ht : 0 ≤ σ 0 1 ∧ σ 0 1 ≤ 400) (hb : ∀ i, 0 ≤ i → i < 400 → 0 ≤ σ 1 i ∧ σ 1 i ≤ 255) (hn : zin n) : zMM G 8 KX11_ago [zP (x + 0), zI n] lay (tC x σ C0) nx (2, 12) (zTw (qCuffs (σ 1) M (σ 0 1) ∧ 0 ≤ n ∧ n ≤ 11) (some (zI (qAgoV (σ 1) M (σ 0 1) n))) zEa (fun s C => zRc σ C0 M s C) lay nx x) := by
  refine z_met' (L := [zP (x + 0), zI n, zU, zU]) gX11_ago.1 rfl rfl (Nat.le_of_ble_eq_true rfl) rfl ?_
  have hA := TpAt
  have hx := hT.1
  have hne : x + 0 ≠ -1 := by omega
  have hD := isCo.now
  have hs5 := qWay_sum (T := σ 1) (M := M) (N := σ 0 1) (c := -1)
  have hs6 := qWay_sum (T := σ 1) (M := M) (N := σ 0 1) (c := n)
  unfold qAgoV
  refine z_al0 eX11_ago_0 hne ?_
  refine z_V0w (n := 1) eX11_ago_1 vX11_300 rfl rfl (Nat.le_of_ble_eq_true rfl) (Nat.le_of_ble_eq_true rfl) ((hA).L0 hT (by decide)) (c_X11_readCuffs hT hR hM ht hb) (fun s1 C1 hs1 hP1 => ?_) (fun s1 C1 hs1 hN1 => (by exact ⟨_, _, hs1.1, Or.inr ⟨fun z => hN1 z.1, rfl⟩, rfl, rfl, rfl⟩))
  have hR1 := hs1.1.R hR
  have ha := hs1.2 hP1
  refine z_il1 eX11_ago_4 ?_
  refine z_iconst eX11_ago_5 ?_
  refine z_bipush eX11_ago_6 (by decide) ?_
  refine z_ndS3 (n := 0) eX11_ago_8 vX11_226 rfl rfl (Nat.le_of_ble_eq_true rfl) (Nat.le_of_ble_eq_true rfl) (c_X11_needNumber hT (by assumption) ⟨by omega, by omega⟩ ⟨by omega, by omega⟩) (fun hP8 => ?_) (fun hN8 => (by exact ⟨_, _, hs1.1, Or.inr ⟨fun z => hN8 z.2, rfl⟩, rfl, rfl, rfl⟩))
  refine z_al0 eX11_ago_11 hne ?_
  first | refine z_ta0 lX11_51 eX11_ago_12 rfl hT hA (by decide) rfl rfl ?_ | refine z_ta lX11_51 eX11_ago_12 rfl hT hA ⟨by decide, by decide⟩ rfl rfl ?_
  refine z_al0 eX11_ago_15 hne ?_
  first | refine z_ta0 lX11_20 eX11_ago_16 rfl hT hA (by decide) rfl rfl ?_ | refine z_ta lX11_20 eX11_ago_16 rfl hT hA ⟨by decide, by decide⟩ rfl rfl ?_
  first | refine z_ta0 lX11_194 eX11_ago_19 rfl hT hD (by decide) rfl rfl ?_ | refine z_ta lX11_194 eX11_ago_19 rfl hT hD ⟨by decide, by decide⟩ rfl rfl ?_
  first | refine z_ta0 lX11_198 eX11_ago_22 rfl hT hD.we (by decide) rfl rfl ?_ | refine z_ta lX11_198 eX11_ago_22 rfl hT hD.we ⟨by decide, by decide⟩ rfl rfl ?_
  refine z_V1z eX11_ago_25 vX11_303 rfl rfl (Nat.le_of_ble_eq_true rfl) (Nat.le_of_ble_eq_true rfl) ((CuAt).L0 hT (by decide)) (c_X2_countWays hT hD.we (by decide) hR1.1.we hM.I ha.all) (fun s25 hs25 => ?_)
  have hR2 : CoR lay x C1 s25 (0 + 2) M := (hs1.1.cu hs25.1.cu).R hR
  have ha2 : zRa σ M s25 := by intro a t; rw [hs25.1 304 (by omega)]; exact ha a t
  refine z_is2 eX11_ago_28 (Nat.ne_of_beq_eq_false rfl) ?_
  refine z_il2 eX11_ago_29 ?_
  refine z_if_ne (tgt := 35) eX11_ago_30 rfl ⟨by omega, by omega⟩ (fun h30 => ?_) (fun h30 => ?_)
  · refine z_al0 eX11_ago_35 hne ?_
    first | refine z_ta0 lX11_51 eX11_ago_36 rfl hT hA (by decide) rfl rfl ?_ | refine z_ta lX11_51 eX11_ago_36 rfl hT hA ⟨by decide, by decide⟩ rfl rfl ?_
    first | refine z_ta0 lX11_318 eX11_ago_39 rfl hT CuAt (by decide) rfl rfl ?_ | refine z_ta lX11_318 eX11_ago_39 rfl hT CuAt ⟨by decide, by decide⟩ rfl rfl ?_
    refine z_il1 eX11_ago_42 ?_
    refine z_dup2 eX11_ago_43 (Nat.ne_of_beq_eq_false rfl) (Nat.ne_of_beq_eq_false rfl) ?_
    refine z_tl eX11_ago_44 hT CuAt ⟨by decide, by decide⟩ rfl rfl ⟨by omega, by omega⟩ ?_
    refine z_iconst eX11_ago_45 ?_
    refine z_iand eX11_ago_46 ?_
    refine z_ts eX11_ago_47 hT CuAt ⟨by decide, by decide⟩ rfl rfl ⟨by omega, by omega⟩ ?_
    refine z_al0 eX11_ago_48 hne ?_
    first | refine z_ta0 lX11_51 eX11_ago_49 rfl hT hA (by decide) rfl rfl ?_ | refine z_ta lX11_51 eX11_ago_49 rfl hT hA ⟨by decide, by decide⟩ rfl rfl ?_
    refine z_al0 eX11_ago_52 hne ?_
    first | refine z_ta0 lX11_20 eX11_ago_53 rfl hT hA (by decide) rfl rfl ?_ | refine z_ta lX11_20 eX11_ago_53 rfl hT hA ⟨by decide, by decide⟩ rfl rfl ?_
    first | refine z_ta0 lX11_194 eX11_ago_56 rfl hT hD (by decide) rfl rfl ?_ | refine z_ta lX11_194 eX11_ago_56 rfl hT hD ⟨by decide, by decide⟩ rfl rfl ?_
    first | refine z_ta0 lX11_198 eX11_ago_59 rfl hT hD.we (by decide) rfl rfl ?_ | refine z_ta lX11_198 eX11_ago_59 rfl hT hD.we ⟨by decide, by decide⟩ rfl rfl ?_
    refine z_V1z eX11_ago_62 vX11_303 rfl rfl (Nat.le_of_ble_eq_true rfl) (Nat.le_of_ble_eq_true rfl) ((CuAt).L0 hT (by decide)) (c_X2_countWays hT hD.we (by decide) (hR2.1.we.out (zset_o (by omega)) (zset_o (by omega))) hM.I ha2.ago) (fun s62 hs62 => ?_)
    refine z_is3 eX11_ago_65 (Nat.ne_of_beq_eq_false rfl) ?_
    refine z_il3 eX11_ago_66 ?_
    refine z_il2 eX11_ago_67 ?_
    refine z_icmp_ne (tgt := 73) eX11_ago_68 rfl ⟨⟨by omega, by omega⟩, ⟨by omega, by omega⟩⟩ (fun h68 => ?_) (fun h68 => ?_)
    · refine z_il3 eX11_ago_73 ?_
      refine z_if_ne (tgt := 81) eX11_ago_74 rfl ⟨by omega, by omega⟩ (fun h74 => ?_) (fun h74 => ?_)
      · refine z_iconst eX11_ago_81 ?_
        refine z_ireturn eX11_ago_82 rfl ?_
        refine ⟨_, _, ((hs1.1.cu hs25.1.cu).cu (q := zset s25 304 n (zand (s25 304 n) 4)) (fun i hi => zset_o (by omega))).cu hs62.1.cu, Or.inl ⟨⟨hP1, hP8⟩, ?_⟩, rfl, rfl, rfl⟩
        rw [if_neg (by omega)]
        first | rw [if_pos (by omega)] | (rw [if_neg (by omega)]; first | rw [if_pos (by omega)] | rw [if_neg (by omega)])
      · refine z_iconst eX11_ago_77 ?_
        refine z_goto eX11_ago_78 (tgt := 82) rfl ?_
        refine z_ireturn eX11_ago_82 rfl ?_
        refine ⟨_, _, ((hs1.1.cu hs25.1.cu).cu (q := zset s25 304 n (zand (s25 304 n) 4)) (fun i hi => zset_o (by omega))).cu hs62.1.cu, Or.inl ⟨⟨hP1, hP8⟩, ?_⟩, rfl, rfl, rfl⟩
        rw [if_neg (by omega)]
        first | rw [if_pos (by omega)] | (rw [if_neg (by omega)]; first | rw [if_pos (by omega)] | rw [if_neg (by omega)])
    · refine z_iconst eX11_ago_71 ?_
      refine z_ireturn eX11_ago_72 rfl ?_
      refine ⟨_, _, ((hs1.1.cu hs25.1.cu).cu (q := zset s25 304 n (zand (s25 304 n) 4)) (fun i hi => zset_o (by omega))).cu hs62.1.cu, Or.inl ⟨⟨hP1, hP8⟩, ?_⟩, rfl, rfl, rfl⟩
      rw [if_neg (by omega)]
      first | rw [if_pos (by omega)] | (rw [if_neg (by omega)]; first | rw [if_pos (by omega)] | rw [if_neg (by omega)])
  · refine z_iconst eX11_ago_33 ?_
    refine z_ireturn eX11_ago_34 rfl ?_
    refine ⟨_, _, hs1.1.cu hs25.1.cu, Or.inl ⟨⟨hP1, hP8⟩, ?_⟩, rfl, rfl, rfl⟩
    rw [if_pos (by omega)]
theorem qSkies_B (W : Int → Int) {i : Int} (hi : 0 ≤ i ∧ i < 32) : zbit (qSkies W) i = 1 ↔ i < 5 ∧ 0 < W i := by
  unfold qSkies
  exact zors_ifB (P := fun i => 0 < W i) ⟨by decide, by decide⟩ (fun t _ _ h => if_pos h) (fun t _ _ h => if_neg h) hi
theorem qSkies_32 (W : Int → Int) : 0 ≤ qSkies W ∧ qSkies W < 32 := by
  have := zB_of (x := qSkies W) (n := 5) (zors_in _ (by decide)) (by decide) (fun k k0 k1 => by
    cases e : zB (qSkies W) k with
    | false => rfl
    | true =>
      have := (qSkies_B W (i := k) ⟨by omega, by omega⟩).mp ((zbit_B1 (by omega) (by omega)).mpr (by rw [Int.toNat_natCast]; exact e))
      omega)
  exact this
theorem qWetS_b (M : Int → Int) (p : Int) {i : Int} (hi : 0 ≤ i ∧ i < 32) : zbit (qWetS M p 5) i = 1 ↔ i < 5 ∧ 0 < qFelt M p i (-1) (M 6) := by
  unfold qWetS
  exact zors_ifB (P := fun t => 0 < qFelt M p t (-1) (M 6)) ⟨by decide, by decide⟩ (fun t _ _ h => if_pos h) (fun t _ _ h => if_neg h) hi
theorem qWetIn_c (M : Int → Int) {set p : Int} (hs : 0 ≤ set ∧ set < 32) : (0 ≤ zand set (qWetS M p 5) ∧ zand set (qWetS M p 5) < 256) ∧ qbits (zand set (qWetS M p 5)) = qWetIn M set p 5 := by
  have hu := zand_256 (a := set) (c := qWetS M p 5) ⟨hs.1, by omega⟩
  refine ⟨hu, ?_⟩
  have hb : ∀ i : Int, 0 ≤ i → i < 8 → (zbit (zand set (qWetS M p 5)) i = 1 ↔ i < 5 ∧ (zbit set i = 1 ∧ 0 < qFelt M p i (-1) (M 6))) := by
    intro i i0 i1
    rw [zbit_and ⟨i0, by omega⟩, qWetS_b M p ⟨i0, by omega⟩]
    exact ⟨fun z => ⟨z.2.1, z.1, z.2.2⟩, fun z => ⟨z.2.1, z.1, z.2.2⟩⟩
  rw [qbits_cnt hu, qCnt_bit, zsum_cut (n := 5) (by decide) (by decide) (fun t t0 t1 => by
    rcases zbit_01 (zand set (qWetS M p 5)) t with z | z
    · exact z
    · have := (hb t (by omega) (by omega)).mp z
      omega)]
  unfold qWetIn
  refine zsum_congr (fun t t0 t1 => ?_)
  have h1 := hb t t0 (by omega)
  rcases zbit_01 (zand set (qWetS M p 5)) t with z | z
  · rw [z, zbi_f]
    intro y
    have := h1.mpr ⟨t1, y⟩
    omega
  · rw [z, zbi_t (h1.mp z).2]
theorem c_X11_ask {G : zG} {lay : zLay} {σ C0 : zMem} {nx x : Int} (hT : TopL lay x) {M : Int → Int} (hR : CoR lay x C0 σ (0 + 2) M) (hM : zOC M) (ht : 0 ≤ σ 0 1 ∧ σ 0 1 ≤ 400) (hb : ∀ i, 0 ≤ i → i < 400 → 0 ≤ σ 1 i ∧ σ 1 i ≤ 255) : zMM G 8 KX11_ask [zP (x + 0)] lay (tC x σ C0) nx (1, 6) (zTw (qCuffs (σ 1) M (σ 0 1)) (some (zI (qAskV M (qSkies (qWay (σ 1) M (σ 0 1) (-1) 11))))) zEa (fun s C => zRc σ C0 M s C) lay nx x) := by
  refine z_met' (L := [zP (x + 0), zU, zU, zU, zU, zU, zU, zU]) gX11_ask.1 rfl rfl (Nat.le_of_ble_eq_true rfl) rfl ?_
  have hA := TpAt
  have hx := hT.1
  have hne : x + 0 ≠ -1 := by omega
  have hD := isCo.now
  have hm3 := hM.I.m3
  have hl : ∀ (u : Int) (Q : zQ), 0 ≤ u ∧ u < 32 → (∀ S C, zRc σ C0 M S C → Q (.inl (some (zI (qMin (qMore M u) (-1) 2000000000 (M 3)).1))) lay (tC x S C) nx) → ∀ t : Int, 0 ≤ t → t ≤ M 3 → ∀ (S C : zMem) (m : Int) (y1 y2 : zAV), y1.1 ≠ 1 → zRc σ C0 M S C → (-31 ≤ m ∧ m ≤ 6) → m = (if (qMin (qMore M u) (-1) 2000000000 t).2 < 6 then (qMin (qMore M u) (-1) 2000000000 t).2 else 6) → zW G KX11_ask 8 Q 51 [zP (x + 0), zI u, zI (qbits u), zI m, zI (qMin (qMore M u) (-1) 2000000000 t).1, zI t, y1, y2] [] lay (tC x S C) nx (0, 0) := by
    intro u Q hu hq
    have hub : 0 ≤ qbits u ∧ qbits u ≤ 5 := by
      rw [qbits_cnt ⟨hu.1, by omega⟩, qCnt_bit, zsum_cut (n := 5) (by decide) (by decide) (fun t t0 t1 => by rw [zbit_B u (by omega) (by omega), zB_lt (n := 5) hu.1 (by omega) hu.2 (by omega)]; rfl)]
      exact zsum_bnd (c := 1) (by decide) (fun t _ _ => by have := zbit_01 u t; omega)
    refine z_up (M 3) ?_ ?_
    · intro S C m y1 y2 hy hS hm0 hm
      have hR1 := hS.R hR
      refine z_il5 eX11_ask_51 ?_
      refine z_al0 eX11_ask_53 hne ?_
      first | refine z_ta0 lX11_20 eX11_ask_54 rfl hT hA (by decide) rfl rfl ?_ | refine z_ta lX11_20 eX11_ask_54 rfl hT hA ⟨by decide, by decide⟩ rfl rfl ?_
      first | refine z_tg0 (j := 1) lX11_321 eX11_ask_57 rfl hT hD (by decide) rfl rfl rfl ?_ | refine z_tg (j := 1) lX11_321 eX11_ask_57 rfl hT hD ⟨by decide, by decide⟩ rfl rfl rfl ?_
      rw [hR1.1.n3]
      refine z_icmp_ge (tgt := 109) eX11_ask_60 rfl ⟨⟨by omega, by omega⟩, ⟨by omega, by omega⟩⟩ (fun h60 => ?_) (fun h60 => (by exfalso; omega))
      refine z_il4 eX11_ask_109 ?_
      refine z_ireturn eX11_ask_111 rfl ?_
      exact hq _ _ hS
    · intro t t0 t1 ih S C m y1 y2 hy hS hm0 hm
      have hR1 := hS.R hR
      have hw := qWetIn_c M (set := u) (p := t) hu
      have hwb := qWetIn_bd M u t (n := 5) ⟨by decide, by decide⟩
      have hmo : qMore M u t = if qbits u - qWetIn M u t 5 < qWetIn M u t 5 then qWetIn M u t 5 else qbits u - qWetIn M u t 5 := rfl
      have hmb : -31 ≤ qMore M u t ∧ qMore M u t ≤ 5 := by rw [hmo]; split <;> omega
      rw [qMin_s _ _ _ t0] at ih
      generalize qMin (qMore M u) (-1) 2000000000 t = q at ih hm ⊢
      refine z_il5 eX11_ask_51 ?_
      refine z_al0 eX11_ask_53 hne ?_
      first | refine z_ta0 lX11_20 eX11_ask_54 rfl hT hA (by decide) rfl rfl ?_ | refine z_ta lX11_20 eX11_ask_54 rfl hT hA ⟨by decide, by decide⟩ rfl rfl ?_
      first | refine z_tg0 (j := 1) lX11_321 eX11_ask_57 rfl hT hD (by decide) rfl rfl rfl ?_ | refine z_tg (j := 1) lX11_321 eX11_ask_57 rfl hT hD ⟨by decide, by decide⟩ rfl rfl rfl ?_
      rw [hR1.1.n3]
      refine z_icmp_ge (tgt := 109) eX11_ask_60 rfl ⟨⟨by omega, by omega⟩, ⟨by omega, by omega⟩⟩ (fun h60 => (by exfalso; omega)) (fun h60 => ?_)
      refine z_il1 eX11_ask_63 ?_
      refine z_al0 eX11_ask_64 hne ?_
      first | refine z_ta0 lX11_20 eX11_ask_65 rfl hT hA (by decide) rfl rfl ?_ | refine z_ta lX11_20 eX11_ask_65 rfl hT hA ⟨by decide, by decide⟩ rfl rfl ?_
      refine z_il5 eX11_ask_68 ?_
      refine z_V1y eX11_ask_70 vX11_324 rfl rfl (Nat.le_of_ble_eq_true rfl) (Nat.le_of_ble_eq_true rfl) ((hD).L0 hT (by decide)) (c_X1_wettingSkies hT hD hR1 hM ⟨t0, t1⟩) (fun s70 C70 hs70 => ?_)
      refine z_iand eX11_ask_73 ?_
      refine z_S1 eX11_ask_74 vX11_276 rfl rfl (Nat.le_of_ble_eq_true rfl) (Nat.le_of_ble_eq_true rfl) (c_J6_bitCount_0f7a4 hw.1) ?_
      rw [hw.2]
      refine z_is6 eX11_ask_77 (Nat.ne_of_beq_eq_false rfl) ?_
      refine z_il6 eX11_ask_79 ?_
      refine z_il2 eX11_ask_81 ?_
      refine z_il6 eX11_ask_82 ?_
      refine z_isub eX11_ask_84 ?_
      refine z_max eX11_ask_85 vX11_327 rfl (Nat.le_of_ble_eq_true rfl) (Nat.le_of_ble_eq_true rfl) ⟨⟨by omega, by omega⟩, ⟨by omega, by omega⟩⟩ ?_
      rw [show (if qWetIn M u t 5 < qbits u - qWetIn M u t 5 then qbits u - qWetIn M u t 5 else qWetIn M u t 5) = qMore M u t by rw [hmo]; (repeat' split) <;> omega]
      refine z_is7 eX11_ask_88 (Nat.ne_of_beq_eq_false rfl) ?_
      refine z_il7 eX11_ask_90 ?_
      refine z_il3 eX11_ask_92 ?_
      refine z_icmp_ge (tgt := 103) eX11_ask_93 rfl ⟨⟨by omega, by omega⟩, ⟨by omega, by omega⟩⟩ (fun h93 => ?_) (fun h93 => ?_)
      · refine z_ii5 eX11_ask_103 (Nat.ne_of_beq_eq_false rfl) ?_
        refine z_goto eX11_ask_106 (tgt := 51) rfl ?_
        first | (rw [if_pos (show qMore M u t < q.2 by omega)] at ih; exact ih _ _ _ _ _ (Nat.ne_of_beq_eq_false rfl) (hS.fc hs70) ⟨by omega, by omega⟩ (if_pos (by dsimp only; omega)).symm) | (rw [if_neg (show ¬ qMore M u t < q.2 by omega)] at ih; exact ih _ _ _ _ _ (Nat.ne_of_beq_eq_false rfl) (hS.fc hs70) hm0 hm) | fail
      · refine z_il7 eX11_ask_96 ?_
        refine z_is3 eX11_ask_98 (Nat.ne_of_beq_eq_false rfl) ?_
        refine z_il5 eX11_ask_99 ?_
        refine z_is4 eX11_ask_101 (Nat.ne_of_beq_eq_false rfl) ?_
        refine z_ii5 eX11_ask_103 (Nat.ne_of_beq_eq_false rfl) ?_
        refine z_goto eX11_ask_106 (tgt := 51) rfl ?_
        first | (rw [if_pos (show qMore M u t < q.2 by omega)] at ih; exact ih _ _ _ _ _ (Nat.ne_of_beq_eq_false rfl) (hS.fc hs70) ⟨by omega, by omega⟩ (if_pos (by dsimp only; omega)).symm) | (rw [if_neg (show ¬ qMore M u t < q.2 by omega)] at ih; exact ih _ _ _ _ _ (Nat.ne_of_beq_eq_false rfl) (hS.fc hs70) hm0 hm) | fail
  have hu32 := qSkies_32 (qWay (σ 1) M (σ 0 1) (-1) 11)
  have hqb := qbits_bd (qSkies (qWay (σ 1) M (σ 0 1) (-1) 11))
  unfold qAskV
  refine z_al0 eX11_ask_0 hne ?_
  refine z_V0w (n := 0) eX11_ask_1 vX11_300 rfl rfl (Nat.le_of_ble_eq_true rfl) (Nat.le_of_ble_eq_true rfl) ((hA).L0 hT (by decide)) (c_X11_readCuffs hT hR hM ht hb) (fun s1 C1 hs1 hP1 => ?_) (fun s1 C1 hs1 hN1 => (by exact ⟨_, _, hs1.1, Or.inr ⟨hN1, rfl⟩, rfl, rfl, rfl⟩))
  have hR1 := hs1.1.R hR
  have ha := hs1.2 hP1
  refine z_al0 eX11_ask_4 hne ?_
  first | refine z_ta0 lX11_51 eX11_ask_5 rfl hT hA (by decide) rfl rfl ?_ | refine z_ta lX11_51 eX11_ask_5 rfl hT hA ⟨by decide, by decide⟩ rfl rfl ?_
  refine z_al0 eX11_ask_8 hne ?_
  first | refine z_ta0 lX11_20 eX11_ask_9 rfl hT hA (by decide) rfl rfl ?_ | refine z_ta lX11_20 eX11_ask_9 rfl hT hA ⟨by decide, by decide⟩ rfl rfl ?_
  first | refine z_ta0 lX11_194 eX11_ask_12 rfl hT hD (by decide) rfl rfl ?_ | refine z_ta lX11_194 eX11_ask_12 rfl hT hD ⟨by decide, by decide⟩ rfl rfl ?_
  first | refine z_ta0 lX11_198 eX11_ask_15 rfl hT hD.we (by decide) rfl rfl ?_ | refine z_ta lX11_198 eX11_ask_15 rfl hT hD.we ⟨by decide, by decide⟩ rfl rfl ?_
  refine z_V1z eX11_ask_18 vX11_303 rfl rfl (Nat.le_of_ble_eq_true rfl) (Nat.le_of_ble_eq_true rfl) ((CuAt).L0 hT (by decide)) (c_X2_countWays hT hD.we (by decide) hR1.1.we hM.I ha.all) (fun s18 hs18 => ?_)
  refine z_pop eX11_ask_21 (Nat.ne_of_beq_eq_false rfl) ?_
  refine z_al0 eX11_ask_22 hne ?_
  first | refine z_ta0 lX11_51 eX11_ask_23 rfl hT hA (by decide) rfl rfl ?_ | refine z_ta lX11_51 eX11_ask_23 rfl hT hA ⟨by decide, by decide⟩ rfl rfl ?_
  refine z_V0 eX11_ask_26 vX11_312 rfl rfl (Nat.le_of_ble_eq_true rfl) (Nat.le_of_ble_eq_true rfl) ((CuAt).L0 hT (by decide)) (c_X2_skiesNow hT (fun t t0 t1 => by rw [hs18.2 t t0 t1]; have := qWay_b (T := σ 1) (M := M) (N := σ 0 1) (c := -1) t; exact ⟨by omega, by omega⟩)) ?_
  rw [qSkies_c hs18.2]
  refine z_is1 eX11_ask_29 (Nat.ne_of_beq_eq_false rfl) ?_
  refine z_il1 eX11_ask_30 ?_
  refine z_S1 eX11_ask_31 vX11_276 rfl rfl (Nat.le_of_ble_eq_true rfl) (Nat.le_of_ble_eq_true rfl) (c_J6_bitCount_0f7a4 ⟨hu32.1, by omega⟩) ?_
  refine z_is2 eX11_ask_34 (Nat.ne_of_beq_eq_false rfl) ?_
  refine z_il2 eX11_ask_35 ?_
  refine z_iconst eX11_ask_36 ?_
  refine z_icmp_ge (tgt := 42) eX11_ask_37 rfl ⟨⟨by omega, by omega⟩, ⟨by omega, by omega⟩⟩ (fun h37 => ?_) (fun h37 => ?_)
  · refine z_bipush eX11_ask_42 (by decide) ?_
    refine z_is3 eX11_ask_44 (Nat.ne_of_beq_eq_false rfl) ?_
    refine z_iconst eX11_ask_45 ?_
    refine z_is4 eX11_ask_46 (Nat.ne_of_beq_eq_false rfl) ?_
    refine z_iconst eX11_ask_48 ?_
    refine z_is5 eX11_ask_49 (Nat.ne_of_beq_eq_false rfl) ?_
    rw [if_pos (by omega)]
    exact hl _ _ hu32 (fun S C hS => ⟨_, _, hS, Or.inl ⟨hP1, rfl⟩, rfl, rfl, rfl⟩) 0 (by decide) hm3.1 _ _ 6 _ _ (Nat.ne_of_beq_eq_false rfl) (hs1.1.cu hs18.1.cu) ⟨by decide, by decide⟩ rfl
  · refine z_iconst eX11_ask_40 ?_
    refine z_ireturn eX11_ask_41 rfl ?_
    refine ⟨_, _, hs1.1.cu hs18.1.cu, Or.inl ⟨hP1, ?_⟩, rfl, rfl, rfl⟩
    rw [if_neg (by omega)]
