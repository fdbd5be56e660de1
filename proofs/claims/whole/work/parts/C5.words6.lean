/-! Words, on: rows of figures; a text is begun. -/
theorem c_X10_figure {G : zG} {lay : zLay} {σ C0 : zMem} {nx x w e a f : Int} {T : Int → Int} (hT : TopL lay x) (hX : TxC x σ w T e) (ha : 0 ≤ a ∧ a ≤ e) {i : Int} (hi : -1000 ≤ i ∧ i ≤ 1000) : zMM G 1 KX10_figure [zP (x + w), zI i] lay (tC x (zTk σ w T e a f) C0) nx (0, 0) (zR (some (zI (if 0 ≤ i ∧ qscan qbl T e a + i < qStop T e (qscan qbl T e a) then T (qscan qbl T e a + i) - 48 else 0))) lay (tC x (zTk σ w T e a f) (C0)) nx) := by
  refine z_met' (L := [zP (x + w), zI i, zU]) gX10_figure.1 rfl rfl (Nat.le_of_ble_eq_true rfl) rfl ?_
  have hA := hX.A
  have hx := hT.1
  have hw := hX.w1
  have hne : x + w ≠ -1 := by omega
  have he := hX.e0
  have hnw := hX.ne
  have hbd := qskip_bd (T := T) ha.2
  obtain ⟨b, hb⟩ : ∃ b, qscan qbl T e a = b := ⟨_, rfl⟩
  have hss : b ≤ qStop T e b ∧ qStop T e b ≤ e := by
    rw [hb] at hbd
    unfold qStop
    have h1 := qscan_bd (P := qlet) (T := T) (e := e) (k := b + 1)
    have h2 := qscan_bd (P := qdig) (T := T) (e := e) (k := b + 1)
    (repeat' split) <;> omega
  rw [hb] at hbd ⊢
  refine z_al0 eX10_figure_0 hne ?_
  first | refine z_tg0 (j := 3) lX10_37 eX10_figure_1 rfl hT hA (by decide) rfl rfl rfl ?_ | refine z_tg (j := 3) lX10_37 eX10_figure_1 rfl hT hA ⟨by decide, by decide⟩ rfl rfl rfl ?_
  first | rw [zTk_3, hb] | rw [zTk_4, hb] | rw [zTk_1, hX.pt] | skip
  refine z_il1 eX10_figure_4 ?_
  refine z_iadd eX10_figure_5 ?_
  refine z_is2 eX10_figure_6 (Nat.ne_of_beq_eq_false rfl) ?_
  refine z_il1 eX10_figure_7 ?_
  refine z_if_lt (tgt := 40) eX10_figure_8 rfl ⟨by omega, by omega⟩ (fun h8 => ?_) (fun h8 => ?_)
  · refine z_iconst eX10_figure_40 ?_
    refine z_ireturn eX10_figure_41 rfl ?_
    first | (rw [if_pos ⟨by omega, by omega⟩]; exact ⟨rfl, rfl, rfl, rfl⟩) | (rw [if_neg (fun z => by omega)]; exact ⟨rfl, rfl, rfl, rfl⟩) | fail
  · refine z_il2 eX10_figure_11 ?_
    refine z_al0 eX10_figure_12 hne ?_
    first | refine z_tg0 (j := 4) lX10_31 eX10_figure_13 rfl hT hA (by decide) rfl rfl rfl ?_ | refine z_tg (j := 4) lX10_31 eX10_figure_13 rfl hT hA ⟨by decide, by decide⟩ rfl rfl rfl ?_
    first | rw [zTk_3, hb] | rw [zTk_4, hb] | rw [zTk_1, hX.pt] | skip
    refine z_icmp_ge (tgt := 40) eX10_figure_16 rfl ⟨⟨by omega, by omega⟩, ⟨by omega, by omega⟩⟩ (fun h16 => ?_) (fun h16 => ?_)
    · refine z_iconst eX10_figure_40 ?_
      refine z_ireturn eX10_figure_41 rfl ?_
      first | (rw [if_pos ⟨by omega, by omega⟩]; exact ⟨rfl, rfl, rfl, rfl⟩) | (rw [if_neg (fun z => by omega)]; exact ⟨rfl, rfl, rfl, rfl⟩) | fail
    · refine z_il2 eX10_figure_19 ?_
      refine z_al0 eX10_figure_20 hne ?_
      first | refine z_td0 (j := 1) lX10_15 eX10_figure_21 rfl hT hA (by decide) rfl rfl rfl ?_ | refine z_td (j := 1) lX10_15 eX10_figure_21 rfl hT hA ⟨by decide, by decide⟩ rfl rfl rfl ?_
      first | rw [zTk_3, hb] | rw [zTk_4, hb] | rw [zTk_1, hX.pt] | skip
      refine z_tn eX10_figure_24 hT TpAt ⟨by decide, by decide⟩ rfl ?_
      refine z_icmp_ge (tgt := 40) eX10_figure_25 rfl ⟨⟨by omega, by omega⟩, ⟨by omega, by omega⟩⟩ (fun h25 => (by exfalso; omega)) (fun h25 => ?_)
      refine z_al0 eX10_figure_28 hne ?_
      first | refine z_td0 (j := 1) lX10_15 eX10_figure_29 rfl hT hA (by decide) rfl rfl rfl ?_ | refine z_td (j := 1) lX10_15 eX10_figure_29 rfl hT hA ⟨by decide, by decide⟩ rfl rfl rfl ?_
      first | rw [zTk_3, hb] | rw [zTk_4, hb] | rw [zTk_1, hX.pt] | skip
      refine z_il2 eX10_figure_32 ?_
      refine z_tl eX10_figure_33 hT TpAt ⟨by decide, by decide⟩ rfl rfl ⟨by omega, by omega⟩ ?_
      rw [zTk_o hnw, hX.tx (b + i) (by omega) (by omega)]
      first | rw [zTk_3, hb] | rw [zTk_4, hb] | rw [zTk_1, hX.pt] | skip
      refine z_bipush eX10_figure_34 (by decide) ?_
      refine z_isub eX10_figure_36 ?_
      refine z_goto eX10_figure_37 (tgt := 41) rfl ?_
      refine z_ireturn eX10_figure_41 rfl ?_
      first | (rw [if_pos ⟨by omega, by omega⟩]; exact ⟨rfl, rfl, rfl, rfl⟩) | (rw [if_neg (fun z => by omega)]; exact ⟨rfl, rfl, rfl, rfl⟩) | fail
theorem c_X10_atFigures {G : zG} {lay : zLay} {σ C0 : zMem} {nx x w e a f : Int} {T : Int → Int} (hT : TopL lay x) (hX : TxC x σ w T e) (ha : 0 ≤ a ∧ a ≤ e) {m p : Int} (hm : 1 ≤ m ∧ m ≤ 10) (hp : 0 ≤ p ∧ p ≤ 9) : zMM G 2 KX10_atFigures [zP (x + w), zI m, zI p] lay (tC x (zTk σ w T e a f) C0) nx (0, 0) (zR (some (zI (zbi (qscan qdig T e (qscan qbl T e a) = qscan qbl T e a + m ∧ qmost T (qscan qbl T e a) m p)))) lay (tC x (zTk σ w T e a f) (C0)) nx) := by
  refine z_met' (L := [zP (x + w), zI m, zI p, zU]) gX10_atFigures.1 rfl rfl (Nat.le_of_ble_eq_true rfl) rfl ?_
  have hA := hX.A
  have hx := hT.1
  have hw := hX.w1
  have hne : x + w ≠ -1 := by omega
  have he := hX.e0
  have hnw := hX.ne
  have hbd := qskip_bd (T := T) ha.2
  have hk := qKind_bd T e (qscan qbl T e a)
  have hk2 := qKind_2 (T := T) (e := e) (b := qscan qbl T e a)
  obtain ⟨b, hb⟩ : ∃ b, qscan qbl T e a = b := ⟨_, rfl⟩
  have hss : b ≤ qStop T e b ∧ qStop T e b ≤ e := by
    rw [hb] at hbd
    unfold qStop
    have h1 := qscan_bd (P := qlet) (T := T) (e := e) (k := b + 1)
    have h2 := qscan_bd (P := qdig) (T := T) (e := e) (k := b + 1)
    (repeat' split) <;> omega
  rw [hb] at hbd hk hk2 ⊢
  have hno : ¬ qKind T e b = 2 → ¬ (qscan qdig T e b = b + m ∧ qmost T b m p) := by
    intro z q
    refine z (hk2.mpr ?_)
    by_cases c : b < e
    · refine ⟨c, ?_⟩
      by_cases c2 : qdig (T b) = true
      · exact c2
      · have := q.1; rw [qscan_f c c2] at this; omega
    · have := q.1; rw [qscan_ge (by omega)] at this; omega
  have hl : qKind T e b = 2 → qscan qdig T e b = b + m → ∀ i : Int, 0 ≤ i → i ≤ m → (∀ j, 0 ≤ j → j < i → T (b + j) - 48 ≤ p) → zW G KX10_atFigures 2 (zR (some (zI (zbi (qscan qdig T e b = b + m ∧ qmost T b m p)))) lay (tC x (zTk σ w T e a f) C0) nx) 25 [zP (x + w), zI m, zI p, zI i] [] lay (tC x (zTk σ w T e a f) C0) nx (0, 0) := by
    intro hk8 hsc
    have hd9 := hk2.mp hk8
    have hst := qStop_dig hd9.1 hd9.2
    refine z_up m ?_ ?_
    · intro hj
      have hh : qscan qdig T e b = b + m ∧ qmost T b m p := ⟨hsc, fun k k0 k1 => by have := hj (k - b) (by omega) (by omega); rwa [show b + (k - b) = k by omega] at this⟩
      refine z_il3 eX10_atFigures_25 ?_
      refine z_il1 eX10_atFigures_26 ?_
      refine z_icmp_ge (tgt := 47) eX10_atFigures_27 rfl ⟨⟨by omega, by omega⟩, ⟨by omega, by omega⟩⟩ (fun h27 => ?_) (fun h27 => (by exfalso; omega))
      refine z_iconst eX10_atFigures_47 ?_
      refine z_zreturn eX10_atFigures_48 rfl (by first | exact Or.inl rfl | exact Or.inr rfl | exact zbi_01 _ | assumption | omega) ?_
      rw [zbi_t hh]; exact ⟨rfl, rfl, rfl, rfl⟩
    · intro i h0 h1 ih hj
      have hbt := hX.bt (b + i) (by omega) (by omega)
      refine z_il3 eX10_atFigures_25 ?_
      refine z_il1 eX10_atFigures_26 ?_
      refine z_icmp_ge (tgt := 47) eX10_atFigures_27 rfl ⟨⟨by omega, by omega⟩, ⟨by omega, by omega⟩⟩ (fun h27 => (by exfalso; omega)) (fun h27 => ?_)
      refine z_al0 eX10_atFigures_30 hne ?_
      refine z_il3 eX10_atFigures_31 ?_
      refine z_V1 eX10_atFigures_32 vX10_70 rfl rfl (Nat.le_of_ble_eq_true rfl) (Nat.le_of_ble_eq_true rfl) ((hA).L0 hT (by decide)) (c_X10_figure hT hX ha ⟨by omega, by omega⟩) ?_
      rw [hb, if_pos ⟨by omega, by omega⟩]
      refine z_il2 eX10_atFigures_35 ?_
      refine z_icmp_le (tgt := 41) eX10_atFigures_36 rfl ⟨⟨by omega, by omega⟩, ⟨by omega, by omega⟩⟩ (fun h36 => ?_) (fun h36 => ?_)
      · refine z_ii3 eX10_atFigures_41 (Nat.ne_of_beq_eq_false rfl) ?_
        refine z_goto eX10_atFigures_44 (tgt := 25) rfl ?_
        refine ih (fun j j0 j1 => ?_)
        by_cases hji : j = i
        · rw [hji]; omega
        · exact hj j j0 (by omega)
      · refine z_iconst eX10_atFigures_39 ?_
        refine z_zreturn eX10_atFigures_40 rfl (by first | exact Or.inl rfl | exact Or.inr rfl | exact zbi_01 _ | assumption | omega) ?_
        rw [zbi_f (fun z => absurd (z.2 (b + i) (by omega) (by omega)) (by omega))]; exact ⟨rfl, rfl, rfl, rfl⟩
  refine z_al0 eX10_atFigures_0 hne ?_
  first | refine z_tg0 (j := 5) lX10_40 eX10_atFigures_1 rfl hT hA (by decide) rfl rfl rfl ?_ | refine z_tg (j := 5) lX10_40 eX10_atFigures_1 rfl hT hA ⟨by decide, by decide⟩ rfl rfl rfl ?_
  first | rw [zTk_3, hb] | rw [zTk_4, hb] | rw [zTk_5, hb] | skip
  refine z_iconst eX10_atFigures_4 ?_
  refine z_icmp_ne (tgt := 21) eX10_atFigures_5 rfl ⟨⟨by omega, by omega⟩, ⟨by omega, by omega⟩⟩ (fun h5 => ?_) (fun h5 => ?_)
  · refine z_iconst eX10_atFigures_21 ?_
    refine z_zreturn eX10_atFigures_22 rfl (by first | exact Or.inl rfl | exact Or.inr rfl | exact zbi_01 _ | assumption | omega) ?_
    first | (rw [zbi_f (hno (by omega))]; exact ⟨rfl, rfl, rfl, rfl⟩) | (rw [zbi_f (fun z => by have := z.1; rw [← qStop_dig (hk2.mp (by omega)).1 (hk2.mp (by omega)).2] at this; omega)]; exact ⟨rfl, rfl, rfl, rfl⟩) | fail
  · refine z_al0 eX10_atFigures_8 hne ?_
    first | refine z_tg0 (j := 4) lX10_31 eX10_atFigures_9 rfl hT hA (by decide) rfl rfl rfl ?_ | refine z_tg (j := 4) lX10_31 eX10_atFigures_9 rfl hT hA ⟨by decide, by decide⟩ rfl rfl rfl ?_
    first | rw [zTk_3, hb] | rw [zTk_4, hb] | rw [zTk_5, hb] | skip
    refine z_al0 eX10_atFigures_12 hne ?_
    first | refine z_tg0 (j := 3) lX10_37 eX10_atFigures_13 rfl hT hA (by decide) rfl rfl rfl ?_ | refine z_tg (j := 3) lX10_37 eX10_atFigures_13 rfl hT hA ⟨by decide, by decide⟩ rfl rfl rfl ?_
    first | rw [zTk_3, hb] | rw [zTk_4, hb] | rw [zTk_5, hb] | skip
    refine z_isub eX10_atFigures_16 ?_
    refine z_il1 eX10_atFigures_17 ?_
    refine z_icmp_eq (tgt := 23) eX10_atFigures_18 rfl ⟨⟨by omega, by omega⟩, ⟨by omega, by omega⟩⟩ (fun h18 => ?_) (fun h18 => ?_)
    · refine z_iconst eX10_atFigures_23 ?_
      refine z_is3 eX10_atFigures_24 (Nat.ne_of_beq_eq_false rfl) ?_
      exact hl (by omega) (by rw [← qStop_dig (hk2.mp (by omega)).1 (hk2.mp (by omega)).2]; omega) 0 (by decide) (by omega) (fun j j0 j1 => by omega)
    · refine z_iconst eX10_atFigures_21 ?_
      refine z_zreturn eX10_atFigures_22 rfl (by first | exact Or.inl rfl | exact Or.inr rfl | exact zbi_01 _ | assumption | omega) ?_
      first | (rw [zbi_f (hno (by omega))]; exact ⟨rfl, rfl, rfl, rfl⟩) | (rw [zbi_f (fun z => by have := z.1; rw [← qStop_dig (hk2.mp (by omega)).1 (hk2.mp (by omega)).2] at this; omega)]; exact ⟨rfl, rfl, rfl, rfl⟩) | fail
theorem zWd_open {S : zMem} {w : Int} : zset (zset S w 4 0) w 0 (-1) = zWd S w (-1) (S w 3) 0 (S w 5) := by
  have h := zWd_self (σ := S) (w := w)
  have h2 : zset (zset (zWd S w (S w 0) (S w 3) (S w 4) (S w 5)) w 4 0) w 0 (-1) = zWd S w (-1) (S w 3) 0 (S w 5) := by rw [zWd_s4, zWd_s0]
  rwa [h] at h2
/-- the numbers once a text of e bytes is begun -/
def zOpn (x : Int) (σ : zMem) (w e : Int) : zMem := zset (zset σ w 1 (x + (0 + 1))) w 2 e
theorem zOpn_o {x : Int} {σ : zMem} {w e o : Int} (h : o ≠ w) : zOpn x σ w e o = σ o := by unfold zOpn; rw [zset_o h, zset_o h]
theorem TxC.start {x : Int} {σ : zMem} {w e : Int} (hw : w = 274 ∨ w = 295) (he : 0 ≤ e ∧ e ≤ 400) (hb : ∀ i, 0 ≤ i → i < 400 → 0 ≤ σ 1 i ∧ σ 1 i ≤ 255) : TxC x (zOpn x σ w e) w (σ 1) e := by
  refine ⟨?_, ?_, he, fun i i0 i1 => ?_, fun i i0 i1 => hb i i0 i1, hw⟩
  · unfold zOpn; rw [zset_f (by decide), zset_eq]
  · unfold zOpn; rw [zset_eq]
  · rw [zOpn_o (by rcases hw with q | q <;> rw [q] <;> decide)]; rfl
theorem c_X10_open {G : zG} {lay : zLay} {σ C0 : zMem} {nx x w e : Int} (hT : TopL lay x) (hw : w = 274 ∨ w = 295) (he : 0 ≤ e ∧ e ≤ 400) (hb : ∀ i, 0 ≤ i → i < 400 → 0 ≤ σ 1 i ∧ σ 1 i ≤ 255) : zMM G 2 KX10_open [zP (x + w), zP (x + (0 + 1)), zI e] lay (tC x σ C0) nx (0, 0) (zR none lay (tC x (zTk (zOpn x σ w e) w (σ 1) e 0 (-1)) C0) nx) := by
  refine z_met' (L := [zP (x + w), zP (x + (0 + 1)), zI e]) gX10_open.1 rfl rfl (Nat.le_of_ble_eq_true rfl) rfl ?_
  have hX := TxC.start (x := x) hw he hb
  have hA := hX.A
  have hx := hT.1
  have hne : x + w ≠ -1 := by omega
  refine z_al0 eX10_open_0 hne ?_
  refine z_al1 eX10_open_1 (by omega) ?_
  first | refine z_tpd0 (j := 1) lX10_15 eX10_open_2 rfl rfl hT hA (by decide) rfl rfl rfl ?_ | refine z_tpd (j := 1) lX10_15 eX10_open_2 rfl rfl hT hA ⟨by decide, by decide⟩ rfl rfl rfl ?_
  refine z_al0 eX10_open_5 hne ?_
  refine z_iconst eX10_open_6 ?_
  refine z_il2 eX10_open_7 ?_
  refine z_al1 eX10_open_8 (by omega) ?_
  refine z_tn eX10_open_9 hT TpAt ⟨by decide, by decide⟩ rfl ?_
  refine z_min eX10_open_10 vX10_19 rfl (Nat.le_of_ble_eq_true rfl) (Nat.le_of_ble_eq_true rfl) ⟨⟨by omega, by omega⟩, ⟨by omega, by omega⟩⟩ ?_
  rw [show (if 400 < e then 400 else e) = e by split <;> omega]
  refine z_max eX10_open_13 vX10_25 rfl (Nat.le_of_ble_eq_true rfl) (Nat.le_of_ble_eq_true rfl) ⟨⟨by omega, by omega⟩, ⟨by omega, by omega⟩⟩ ?_
  rw [show (if 0 < e then e else 0) = e by split <;> omega]
  first | refine z_tp0 (j := 2) lX10_28 eX10_open_16 rfl hT hA (by decide) rfl rfl rfl ?_ | refine z_tp (j := 2) lX10_28 eX10_open_16 rfl hT hA ⟨by decide, by decide⟩ rfl rfl rfl ?_
  refine z_al0 eX10_open_19 hne ?_
  refine z_iconst eX10_open_20 ?_
  first | refine z_tp0 (j := 4) lX10_31 eX10_open_21 rfl hT hA (by decide) rfl rfl rfl ?_ | refine z_tp (j := 4) lX10_31 eX10_open_21 rfl hT hA ⟨by decide, by decide⟩ rfl rfl rfl ?_
  refine z_al0 eX10_open_24 hne ?_
  refine z_iconst eX10_open_25 ?_
  first | refine z_tp0 (j := 0) lX10_9 eX10_open_26 rfl hT hA (by decide) rfl rfl rfl ?_ | refine z_tp (j := 0) lX10_9 eX10_open_26 rfl hT hA ⟨by decide, by decide⟩ rfl rfl rfl ?_
  refine z_al0 eX10_open_29 hne ?_
  change zW _ _ _ _ _ _ _ _ (tC x (zset (zset (zOpn x σ w e) w 4 0) w 0 (-1)) C0) _ _
  rw [zWd_open]
  refine z_V0v eX10_open_30 vX10_34 rfl rfl (Nat.le_of_ble_eq_true rfl) (Nat.le_of_ble_eq_true rfl) ((hA).L0 hT (by decide)) (c_X10_advance hT hX ⟨by omega, by omega⟩) ?_
  refine z_return eX10_open_33 rfl ?_
  exact ⟨rfl, rfl, rfl, rfl⟩
