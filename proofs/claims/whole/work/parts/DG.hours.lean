/-! Hours are run. -/
theorem qPassN_s (M : Int → Int) {t : Int} (h : 0 ≤ t) : qPassN M (t + 1) = qPassS (qPassN M t) := zfold_s _ _ h
theorem qPassN_0 (M : Int → Int) : qPassN M 0 = (M, 0, 0) := rfl
theorem c_X11_like {G : zG} {lay : zLay} {σ C0 : zMem} {nx x : Int} (hT : TopL lay x) {p o : Int} {M : Int → Int} (hN : CoN σ (0 + 2) M) (hM : zOC M) (hp : zin p) (ho : zin o) : zMM G 8 KX11_like [zP (x + 0), zI p, zI o] lay (tC x σ C0) nx (3, 18) (zGd (0 ≤ p ∧ p < M 3) zEb lay (tC x σ C0) nx (zGd (0 ≤ o ∧ o < M 3) zEb lay (tC x σ C0) nx (zGd (p ≠ o) zEa lay (tC x σ C0) nx (zR (some (zI (qLike M p o (M 4)))) lay (tC x (σ) (C0)) nx)))) := by
  refine z_met' (L := [zP (x + 0), zI p, zI o]) gX11_like.1 rfl rfl (Nat.le_of_ble_eq_true rfl) rfl ?_
  have hA := TpAt
  have hx := hT.1
  have hne : x + 0 ≠ -1 := by omega
  have hD := isCo.now
  have hm3 := hM.I.m3
  refine z_al0 eX11_like_0 hne ?_
  refine z_il1 eX11_like_1 ?_
  refine z_ndV1 (n := 2) eX11_like_2 vX11_131 rfl rfl (Nat.le_of_ble_eq_true rfl) (Nat.le_of_ble_eq_true rfl) (hA.L0 hT (by decide)) (c_X11_needMember hT hN hM.I (by assumption)) (fun hP2 => ?_) (fun hN2 => (by first | exact Or.inr ⟨(by first | assumption | exact ⟨by omega, by omega⟩ | omega), rfl, rfl, rfl, rfl⟩ | exact Or.inl ⟨(by first | assumption | exact ⟨by omega, by omega⟩ | omega), Or.inr ⟨(by first | assumption | exact ⟨by omega, by omega⟩ | omega), rfl, rfl, rfl, rfl⟩⟩ | exact Or.inl ⟨(by first | assumption | exact ⟨by omega, by omega⟩ | omega), Or.inl ⟨(by first | assumption | exact ⟨by omega, by omega⟩ | omega), Or.inr ⟨(by first | assumption | exact ⟨by omega, by omega⟩ | omega), rfl, rfl, rfl, rfl⟩⟩⟩))
  refine z_al0 eX11_like_5 hne ?_
  refine z_il2 eX11_like_6 ?_
  refine z_ndV1 (n := 1) eX11_like_7 vX11_131 rfl rfl (Nat.le_of_ble_eq_true rfl) (Nat.le_of_ble_eq_true rfl) (hA.L0 hT (by decide)) (c_X11_needMember hT hN hM.I (by assumption)) (fun hP7 => ?_) (fun hN7 => (by first | exact Or.inr ⟨(by first | assumption | exact ⟨by omega, by omega⟩ | omega), rfl, rfl, rfl, rfl⟩ | exact Or.inl ⟨(by first | assumption | exact ⟨by omega, by omega⟩ | omega), Or.inr ⟨(by first | assumption | exact ⟨by omega, by omega⟩ | omega), rfl, rfl, rfl, rfl⟩⟩ | exact Or.inl ⟨(by first | assumption | exact ⟨by omega, by omega⟩ | omega), Or.inl ⟨(by first | assumption | exact ⟨by omega, by omega⟩ | omega), Or.inr ⟨(by first | assumption | exact ⟨by omega, by omega⟩ | omega), rfl, rfl, rfl, rfl⟩⟩⟩))
  refine z_il1 eX11_like_10 ?_
  refine z_il2 eX11_like_11 ?_
  refine z_ndS2 (n := 0) eX11_like_12 vX11_381 rfl rfl (Nat.le_of_ble_eq_true rfl) (Nat.le_of_ble_eq_true rfl) (c_X11_needTwo hT (by assumption) (by assumption)) (fun hP12 => ?_) (fun hN12 => (by first | exact Or.inr ⟨(by first | assumption | exact ⟨by omega, by omega⟩ | omega), rfl, rfl, rfl, rfl⟩ | exact Or.inl ⟨(by first | assumption | exact ⟨by omega, by omega⟩ | omega), Or.inr ⟨(by first | assumption | exact ⟨by omega, by omega⟩ | omega), rfl, rfl, rfl, rfl⟩⟩ | exact Or.inl ⟨(by first | assumption | exact ⟨by omega, by omega⟩ | omega), Or.inl ⟨(by first | assumption | exact ⟨by omega, by omega⟩ | omega), Or.inr ⟨(by first | assumption | exact ⟨by omega, by omega⟩ | omega), rfl, rfl, rfl, rfl⟩⟩⟩))
  refine z_al0 eX11_like_15 hne ?_
  first | refine z_ta0 lX11_20 eX11_like_16 rfl hT hA (by decide) rfl rfl ?_ | refine z_ta lX11_20 eX11_like_16 rfl hT hA ⟨by decide, by decide⟩ rfl rfl ?_
  first | refine z_ta0 lX11_154 eX11_like_19 rfl hT hD (by decide) rfl rfl ?_ | refine z_ta lX11_154 eX11_like_19 rfl hT hD ⟨by decide, by decide⟩ rfl rfl ?_
  refine z_il1 eX11_like_22 ?_
  refine z_il2 eX11_like_23 ?_
  refine z_V2 eX11_like_24 vX11_390 rfl rfl (Nat.le_of_ble_eq_true rfl) (Nat.le_of_ble_eq_true rfl) ((hD.mo).L0 hT (by decide)) (c_X6_sameMinds hT hD.mo hN.mo hM.I ⟨by omega, by omega⟩ ⟨by omega, by omega⟩) ?_
  refine z_ireturn eX11_like_27 rfl ?_
  first | exact Or.inl ⟨(by first | assumption | exact ⟨by omega, by omega⟩ | omega), Or.inl ⟨(by first | assumption | exact ⟨by omega, by omega⟩ | omega), Or.inl ⟨(by first | assumption | exact ⟨by omega, by omega⟩ | omega), ⟨rfl, rfl, rfl, rfl⟩⟩⟩⟩ | exact Or.inl ⟨(by first | assumption | exact ⟨by omega, by omega⟩ | omega), Or.inl ⟨(by first | assumption | exact ⟨by omega, by omega⟩ | omega), Or.inl ⟨(by first | assumption | exact ⟨by omega, by omega⟩ | omega), zRb1 (by omega)⟩⟩⟩ | exact Or.inl ⟨(by first | assumption | exact ⟨by omega, by omega⟩ | omega), Or.inl ⟨(by first | assumption | exact ⟨by omega, by omega⟩ | omega), Or.inl ⟨(by first | assumption | exact ⟨by omega, by omega⟩ | omega), zRb0 (by omega)⟩⟩⟩ | exact Or.inl ⟨(by first | assumption | exact ⟨by omega, by omega⟩ | omega), Or.inl ⟨(by first | assumption | exact ⟨by omega, by omega⟩ | omega), Or.inl ⟨(by first | assumption | exact ⟨by omega, by omega⟩ | omega), zRe (by omega)⟩⟩⟩
theorem c_X11_end {G : zG} {lay : zLay} {σ C0 : zMem} {nx x : Int} (hT : TopL lay x) {n : Int} (hn : zin n) (ht : 0 ≤ σ 0 1 ∧ σ 0 1 ≤ 400) : zMM G 1 KX11_end [zP (x + 0), zI n] lay (tC x σ C0) nx (0, 0) (zR (some (zI (zbi (0 ≤ n ∧ n ≤ σ 0 1)))) lay (tC x ((if 0 ≤ n ∧ n ≤ σ 0 1 then zset σ 0 1 n else σ)) (C0)) nx) := by
  refine z_met' (L := [zP (x + 0), zI n]) gX11_end.1 rfl rfl (Nat.le_of_ble_eq_true rfl) rfl ?_
  have hA := TpAt
  have hx := hT.1
  have hne : x + 0 ≠ -1 := by omega
  have hD := isCo.now
  refine z_il1 eX11_end_0 ?_
  refine z_if_lt (tgt := 12) eX11_end_1 rfl ⟨by omega, by omega⟩ (fun h1 => ?_) (fun h1 => ?_)
  · refine z_iconst eX11_end_12 ?_
    refine z_zreturn eX11_end_13 rfl (by first | exact Or.inl rfl | exact Or.inr rfl | exact zbi_01 _ | assumption | omega) ?_
    rw [if_neg (by omega), zbi_f (by omega)]; exact ⟨rfl, rfl, rfl, rfl⟩
  · refine z_il1 eX11_end_4 ?_
    refine z_al0 eX11_end_5 hne ?_
    first | refine z_tg0 (j := 1) lX11_69 eX11_end_6 rfl hT hA (by decide) rfl rfl rfl ?_ | refine z_tg (j := 1) lX11_69 eX11_end_6 rfl hT hA ⟨by decide, by decide⟩ rfl rfl rfl ?_
    refine z_icmp_le (tgt := 14) eX11_end_9 rfl ⟨⟨by omega, by omega⟩, ⟨by omega, by omega⟩⟩ (fun h9 => ?_) (fun h9 => ?_)
    · refine z_al0 eX11_end_14 hne ?_
      refine z_il1 eX11_end_15 ?_
      first | refine z_tp0 (j := 1) lX11_69 eX11_end_16 rfl hT hA (by decide) rfl rfl rfl ?_ | refine z_tp (j := 1) lX11_69 eX11_end_16 rfl hT hA ⟨by decide, by decide⟩ rfl rfl rfl ?_
      refine z_iconst eX11_end_19 ?_
      refine z_zreturn eX11_end_20 rfl (by first | exact Or.inl rfl | exact Or.inr rfl | exact zbi_01 _ | assumption | omega) ?_
      rw [if_pos (by omega), zbi_t (by omega)]; exact ⟨rfl, rfl, rfl, rfl⟩
    · refine z_iconst eX11_end_12 ?_
      refine z_zreturn eX11_end_13 rfl (by first | exact Or.inl rfl | exact Or.inr rfl | exact zbi_01 _ | assumption | omega) ?_
      rw [if_neg (by omega), zbi_f (by omega)]; exact ⟨rfl, rfl, rfl, rfl⟩
theorem c_X11_seed {G : zG} {lay : zLay} {σ C0 : zMem} {nx x : Int} (hT : TopL lay x) {n : Int} {M : Int → Int} (hN : CoN σ (0 + 2) M) : zMM G 1 KX11_seed [zP (x + 0), zI n] lay (tC x σ C0) nx (0, 0) (zR (some (zI (M 12))) lay (tC x (zset σ (0 + 2 + 4) 3 n) (C0)) nx) := by
  refine z_met' (L := [zP (x + 0), zI n, zU]) gX11_seed.1 rfl rfl (Nat.le_of_ble_eq_true rfl) rfl ?_
  have hA := TpAt
  have hx := hT.1
  have hne : x + 0 ≠ -1 := by omega
  have hD := isCo.now
  refine z_al0 eX11_seed_0 hne ?_
  first | refine z_ta0 lX11_20 eX11_seed_1 rfl hT hA (by decide) rfl rfl ?_ | refine z_ta lX11_20 eX11_seed_1 rfl hT hA ⟨by decide, by decide⟩ rfl rfl ?_
  first | refine z_ta0 lX11_194 eX11_seed_4 rfl hT hD (by decide) rfl rfl ?_ | refine z_ta lX11_194 eX11_seed_4 rfl hT hD ⟨by decide, by decide⟩ rfl rfl ?_
  first | refine z_tg0 (j := 3) lX11_407 eX11_seed_7 rfl hT hD.we (by decide) rfl rfl rfl ?_ | refine z_tg (j := 3) lX11_407 eX11_seed_7 rfl hT hD.we ⟨by decide, by decide⟩ rfl rfl rfl ?_
  rw [hN.we.1.2.2.2]
  refine z_is2 eX11_seed_10 (Nat.ne_of_beq_eq_false rfl) ?_
  refine z_al0 eX11_seed_11 hne ?_
  first | refine z_ta0 lX11_20 eX11_seed_12 rfl hT hA (by decide) rfl rfl ?_ | refine z_ta lX11_20 eX11_seed_12 rfl hT hA ⟨by decide, by decide⟩ rfl rfl ?_
  first | refine z_ta0 lX11_194 eX11_seed_15 rfl hT hD (by decide) rfl rfl ?_ | refine z_ta lX11_194 eX11_seed_15 rfl hT hD ⟨by decide, by decide⟩ rfl rfl ?_
  refine z_il1 eX11_seed_18 ?_
  first | refine z_tp0 (j := 3) lX11_407 eX11_seed_19 rfl hT hD.we (by decide) rfl rfl rfl ?_ | refine z_tp (j := 3) lX11_407 eX11_seed_19 rfl hT hD.we ⟨by decide, by decide⟩ rfl rfl rfl ?_
  refine z_il2 eX11_seed_22 ?_
  refine z_ireturn eX11_seed_23 rfl ?_
  first | exact ⟨rfl, rfl, rfl, rfl⟩ | exact zRb1 (by omega) | exact zRb0 (by omega) | exact zRe (by omega)
theorem c_X11_dry {G : zG} {lay : zLay} {σ C0 : zMem} {nx x : Int} (hT : TopL lay x) {n : Int} {M : Int → Int} (hN : CoN σ (0 + 2) M) (hM : zOC M) (hn : zin n) : zMM G 8 KX11_dry [zP (x + 0), zI n] lay (tC x σ C0) nx (1, 6) (zGd (0 ≤ n ∧ n ≤ 12) zEa lay (tC x σ C0) nx (zZ' (some (zI (qDry M n))) (fun s => zOut (0 + 2 + 4) 4 σ s ∧ WeR s (0 + 2 + 4) M) lay C0 nx x)) := by
  refine z_met' (L := [zP (x + 0), zI n]) gX11_dry.1 rfl rfl (Nat.le_of_ble_eq_true rfl) rfl ?_
  have hA := TpAt
  have hx := hT.1
  have hne : x + 0 ≠ -1 := by omega
  have hD := isCo.now
  refine z_il1 eX11_dry_0 ?_
  refine z_iconst eX11_dry_1 ?_
  refine z_bipush eX11_dry_2 (by decide) ?_
  refine z_ndS3 (n := 0) eX11_dry_4 vX11_226 rfl rfl (Nat.le_of_ble_eq_true rfl) (Nat.le_of_ble_eq_true rfl) (c_X11_needNumber hT (by assumption) ⟨by omega, by omega⟩ ⟨by omega, by omega⟩) (fun hP4 => ?_) (fun hN4 => (by first | exact Or.inr ⟨(by first | assumption | exact ⟨by omega, by omega⟩ | omega), rfl, rfl, rfl, rfl⟩))
  refine z_al0 eX11_dry_7 hne ?_
  first | refine z_ta0 lX11_20 eX11_dry_8 rfl hT hA (by decide) rfl rfl ?_ | refine z_ta lX11_20 eX11_dry_8 rfl hT hA ⟨by decide, by decide⟩ rfl rfl ?_
  first | refine z_ta0 lX11_194 eX11_dry_11 rfl hT hD (by decide) rfl rfl ?_ | refine z_ta lX11_194 eX11_dry_11 rfl hT hD ⟨by decide, by decide⟩ rfl rfl ?_
  refine z_il1 eX11_dry_14 ?_
  refine z_V1z eX11_dry_15 vX11_393 rfl rfl (Nat.le_of_ble_eq_true rfl) (Nat.le_of_ble_eq_true rfl) ((hD.we).L0 hT (by decide)) (c_X9_dryBehind hT hD.we hN.we hM.ol.1 hP4) (fun s15 hs15 => ?_)
  refine z_ireturn eX11_dry_18 rfl ?_
  exact Or.inl ⟨hP4, zZe hs15 rfl⟩
theorem c_X11_quorate {G : zG} {lay : zLay} {σ C0 : zMem} {nx x : Int} (hT : TopL lay x) {M : Int → Int} (hN : CoN σ (0 + 2) M) (hM : zOC M) : zMM G 2 KX11_quorate [zP (x + 0)] lay (tC x σ C0) nx (0, 0) (zR (some (zI (zbi (M 8 ≤ qbits (qOuts M))))) lay (tC x (σ) (C0)) nx) := by
  refine z_met' (L := [zP (x + 0)]) gX11_quorate.1 rfl rfl (Nat.le_of_ble_eq_true rfl) rfl ?_
  have hA := TpAt
  have hx := hT.1
  have hne : x + 0 ≠ -1 := by omega
  have hD := isCo.now
  have ho := qOuts_256 hM.ol.1
  have h8 := hM.I.s 8 rfl (by omega)
  have hb := qbits_bd (qOuts M)
  refine z_al0 eX11_quorate_0 hne ?_
  first | refine z_ta0 lX11_20 eX11_quorate_1 rfl hT hA (by decide) rfl rfl ?_ | refine z_ta lX11_20 eX11_quorate_1 rfl hT hA ⟨by decide, by decide⟩ rfl rfl ?_
  first | refine z_tg0 (j := 5) lX11_147 eX11_quorate_4 rfl hT hD (by decide) rfl rfl rfl ?_ | refine z_tg (j := 5) lX11_147 eX11_quorate_4 rfl hT hD ⟨by decide, by decide⟩ rfl rfl rfl ?_
  rw [hN.ou]
  refine z_S1 eX11_quorate_7 vX11_276 rfl rfl (Nat.le_of_ble_eq_true rfl) (Nat.le_of_ble_eq_true rfl) (c_J6_bitCount_0f7a4 ⟨by omega, by omega⟩) ?_
  refine z_al0 eX11_quorate_10 hne ?_
  first | refine z_ta0 lX11_20 eX11_quorate_11 rfl hT hA (by decide) rfl rfl ?_ | refine z_ta lX11_20 eX11_quorate_11 rfl hT hA ⟨by decide, by decide⟩ rfl rfl ?_
  first | refine z_tg0 (j := 7) lX11_371 eX11_quorate_14 rfl hT hD (by decide) rfl rfl rfl ?_ | refine z_tg (j := 7) lX11_371 eX11_quorate_14 rfl hT hD ⟨by decide, by decide⟩ rfl rfl rfl ?_
  rw [hN.n8]
  refine z_icmp_lt (tgt := 24) eX11_quorate_17 rfl ⟨⟨by omega, by omega⟩, ⟨by omega, by omega⟩⟩ (fun h17 => ?_) (fun h17 => ?_)
  · refine z_iconst eX11_quorate_24 ?_
    refine z_zreturn eX11_quorate_25 rfl (by first | exact Or.inl rfl | exact Or.inr rfl | exact zbi_01 _ | assumption | omega) ?_
    first | exact ⟨rfl, rfl, rfl, rfl⟩ | exact zRb1 (by omega) | exact zRb0 (by omega) | exact zRe (by omega)
  · refine z_iconst eX11_quorate_20 ?_
    refine z_goto eX11_quorate_21 (tgt := 25) rfl ?_
    refine z_zreturn eX11_quorate_25 rfl (by first | exact Or.inl rfl | exact Or.inr rfl | exact zbi_01 _ | assumption | omega) ?_
    first | exact ⟨rfl, rfl, rfl, rfl⟩ | exact zRb1 (by omega) | exact zRb0 (by omega) | exact zRe (by omega)
theorem qPassC_V {M : Int → Int} (hM : zInv M) : qPassC M = if qRunV M = 1 then 1 else 0 := by
  have h6 := hM.s 6 rfl (by omega)
  have f : ∀ j, j ≠ 5 ∧ j ≠ 12 → qSkyed M j = M j := fun j hj => qSkyed_f hj
  have e6 := f 6 (by decide)
  have hk := hM.P8 (t := M 6) ⟨h6.1, by omega⟩
  unfold qPassC qRunV qPassM
  generalize qSkyed M = M1 at f e6 ⊢
  have ek := f (114 + M1 6) (by omega)
  rw [e6] at ek
  rw [e6, ek]
  generalize M (114 + M 6) = k at hk ⊢
  by_cases hc : qComes M1 k
  · have h1 := hc.1
    rw [zif_t hc, qHourOn_j (by omega)]
    unfold qCame
    rw [zif_t hc, qLog_j (by omega) (by omega), zput_eq, e6]
    by_cases g : qGo M1 k (M1 5) (M 6) = 1
    · rw [if_pos g]; exact zbi_t ⟨hc, g⟩
    · rw [if_neg g]; exact zbi_f (fun z => g z.2)
  · rw [zif_f hc, if_neg (by decide)]
    exact zbi_f (fun z => hc z.1)
theorem qRunV_bd (M : Int → Int) : 0 ≤ qRunV M ∧ qRunV M ≤ 3 := by
  unfold qRunV
  by_cases hc : qComes (qSkyed M) (qSkyed M (114 + qSkyed M 6))
  · rw [zif_t hc]
    have := qGo_bd (qSkyed M) (qSkyed M (114 + qSkyed M 6)) (qSkyed M 5) (qSkyed M 6)
    omega
  · rw [zif_f hc]; decide
theorem c_X11_hours {G : zG} {lay : zLay} {σ C0 : zMem} {nx x : Int} (hT : TopL lay x) {m n : Int} {A : Int → Int → Int} {M : Int → Int} (hR : CoR lay x C0 σ (0 + 2) M) (hM : zOC M) (hP : PaR lay x C0 σ n A) (hm : zin m) : zMM G 8 KX11_hours [zP (x + 0), zI m] lay (tC x σ C0) nx (1, 6) (zGd (1 ≤ m ∧ m ≤ 60) zEa lay (tC x σ C0) nx (zY' (some (zI (qPassN M m).2.2)) (fun s C => CoR lay x C s (0 + 2) (qPassN M m).1 ∧ zOC (qPassN M m).1 ∧ s (0 + 2) 10 = σ (0 + 2) 10 ∧ zStk C0 (σ (0 + 2) 10) C ∧ PaR lay x C s (if n = 12 then 12 else n + 1) (qPast n A M) ∧ (∀ i, ¬ (57 ≤ i ∧ i < 273) → ¬ (2 ≤ i ∧ i < 20) → i ≠ 0 → s i = σ i) ∧ ∀ j, j ≠ 8 → j ≠ 9 → s 0 j = σ 0 j) lay nx x)) := by
  refine z_met' (L := [zP (x + 0), zI m, zU, zU]) gX11_hours.1 rfl rfl (Nat.le_of_ble_eq_true rfl) rfl ?_
  have hA := TpAt
  have hx := hT.1
  have hne : x + 0 ≠ -1 := by omega
  have hD := isCo.now
  have hl : ∀ (s8 : zMem) (Q : zQ), (∀ S C, zRn (0 + 2) s8 C0 S C → CoR lay x C S (0 + 2) (qPassN M m).1 → zOC (qPassN M m).1 → Q (.inl (some (zI (qPassN M m).2.2))) lay (tC x S C) nx) → 0 ≤ m → m ≤ 60 → ∀ t : Int, 0 ≤ t → t ≤ m → ∀ S C, zRn (0 + 2) s8 C0 S C → CoR lay x C S (0 + 2) (qPassN M t).1 → zOC (qPassN M t).1 → zW G KX11_hours 8 Q 15 [zP (x + 0), zI m, zI (qPassN M t).2.2, zI t] [] lay (tC x S C) nx (0, 0) := by
    intro s8 Q hq m0 m1
    refine z_up m ?_ ?_
    · intro S C h1 h2 h3
      refine z_il3 eX11_hours_15 ?_
      refine z_il1 eX11_hours_16 ?_
      refine z_icmp_ge (tgt := 40) eX11_hours_17 rfl ⟨⟨by omega, by omega⟩, ⟨by omega, by omega⟩⟩ (fun h17 => ?_) (fun h17 => (by exfalso; omega))
      refine z_il2 eX11_hours_40 ?_
      refine z_ireturn eX11_hours_41 rfl ?_
      exact hq S C h1 h2 h3
    · intro t t0 t1 ih S C h1 h2 h3
      have hv := qRunV_bd (qPassN M t).1
      have hc := qPassC_V h3.I
      have es : (qPassN M (t + 1)).1 = qPassM (qPassN M t).1 := by rw [qPassN_s M t0]; rfl
      have ev : (qPassN M (t + 1)).2.2 = (qPassN M t).2.2 + qPassC (qPassN M t).1 := by rw [qPassN_s M t0]; rfl
      rw [es, ev, hc] at ih
      refine z_il3 eX11_hours_15 ?_
      refine z_il1 eX11_hours_16 ?_
      refine z_icmp_ge (tgt := 40) eX11_hours_17 rfl ⟨⟨by omega, by omega⟩, ⟨by omega, by omega⟩⟩ (fun h17 => (by exfalso; omega)) (fun h17 => ?_)
      refine z_al0 eX11_hours_20 hne ?_
      first | refine z_ta0 lX11_20 eX11_hours_21 rfl hT hA (by decide) rfl rfl ?_ | refine z_ta lX11_20 eX11_hours_21 rfl hT hA ⟨by decide, by decide⟩ rfl rfl ?_
      refine z_V0y eX11_hours_24 vX11_233 rfl rfl (Nat.le_of_ble_eq_true rfl) (Nat.le_of_ble_eq_true rfl) ((hD).L0 hT (by decide)) (c_X1_runHour hT hD h2 h3) (fun s24 C24 hs24 => ?_)
      refine z_iconst eX11_hours_27 ?_
      refine z_icmp_ne (tgt := 34) eX11_hours_28 rfl ⟨⟨by omega, by omega⟩, ⟨by omega, by omega⟩⟩ (fun h28 => ?_) (fun h28 => ?_)
      · refine z_ii3 eX11_hours_34 (Nat.ne_of_beq_eq_false rfl) ?_
        refine z_goto eX11_hours_37 (tgt := 15) rfl ?_
        first | (rw [if_pos (by omega)] at ih; exact ih _ _ (h1.trans hs24.1) hs24.2 (qPassM_OC h3)) | (rw [if_neg (by omega), Int.add_zero (qPassN M t).2.2] at ih; exact ih _ _ (h1.trans hs24.1) hs24.2 (qPassM_OC h3))
      · refine z_ii2 eX11_hours_31 (Nat.ne_of_beq_eq_false rfl) ?_
        refine z_ii3 eX11_hours_34 (Nat.ne_of_beq_eq_false rfl) ?_
        refine z_goto eX11_hours_37 (tgt := 15) rfl ?_
        first | (rw [if_pos (by omega)] at ih; exact ih _ _ (h1.trans hs24.1) hs24.2 (qPassM_OC h3)) | (rw [if_neg (by omega), Int.add_zero (qPassN M t).2.2] at ih; exact ih _ _ (h1.trans hs24.1) hs24.2 (qPassM_OC h3))
  refine z_il1 eX11_hours_0 ?_
  refine z_iconst eX11_hours_1 ?_
  refine z_bipush eX11_hours_2 (by decide) ?_
  refine z_ndS3 (n := 0) eX11_hours_4 vX11_226 rfl rfl (Nat.le_of_ble_eq_true rfl) (Nat.le_of_ble_eq_true rfl) (c_X11_needNumber hT (by assumption) ⟨by omega, by omega⟩ ⟨by omega, by omega⟩) (fun hP4 => ?_) (fun hN4 => (by first | exact Or.inr ⟨(by first | assumption | exact ⟨by omega, by omega⟩ | omega), rfl, rfl, rfl, rfl⟩))
  refine z_al0 eX11_hours_7 hne ?_
  refine z_V0vz eX11_hours_8 vX11_230 rfl rfl (Nat.le_of_ble_eq_true rfl) (Nat.le_of_ble_eq_true rfl) ((hA).L0 hT (by decide)) (c_X11_rememberNow hT hR.1 hR.2 hM.I hP) (fun s8 hs8 => ?_)
  refine z_iconst eX11_hours_11 ?_
  refine z_is2 eX11_hours_12 (Nat.ne_of_beq_eq_false rfl) ?_
  refine z_iconst eX11_hours_13 ?_
  refine z_is3 eX11_hours_14 (Nat.ne_of_beq_eq_false rfl) ?_
  refine (hl s8 _ (fun S C h1 h2 h3 => ?_) (by omega) hP4.2 0 (by decide) (by omega) s8 C0 (zRn.refl _ _ _) ⟨hs8.1.N hR.1, by rw [hs8.1.1 (0 + 2) (by omega) (by omega)]; exact hR.2⟩ hM)
  have e10 : s8 (0 + 2) 10 = σ (0 + 2) 10 := by rw [hs8.1.1 (0 + 2) (by omega) (by omega)]
  have hz := h1.2.2
  rw [e10] at hz
  exact Or.inl ⟨hP4, zYe ⟨h2, h3, h1.2.1.trans e10, hz, (hs8.2.out (fun i i0 i1 => h1.1 i (by omega)) (by rw [h1.1 0 (by omega)]) (by rw [h1.1 0 (by omega)])).C (fun p M' q => q.stk hR.2 hz), fun i i0 i1 i2 => by rw [h1.1 i (by omega)]; exact hs8.1.1 i i0 i2, fun j j8 j9 => by rw [h1.1 0 (by omega)]; exact hs8.1.2 j j8 j9⟩ rfl⟩
