/-! Bounds of what is read; words; the lines of the coast. -/
abbrev qw_and : List Int := [97, 110, 100]
abbrev qw_at : List Int := [97, 116]
abbrev qw_aye : List Int := [97, 121, 101]
abbrev qw_day : List Int := [100, 97, 121]
abbrev qw_downpour : List Int := [100, 111, 119, 110, 112, 111, 117, 114]
abbrev qw_drizzle : List Int := [100, 114, 105, 122, 122, 108, 101]
abbrev qw_dry : List Int := [100, 114, 121]
abbrev qw_dull : List Int := [100, 117, 108, 108]
abbrev qw_exposed : List Int := [101, 120, 112, 111, 115, 101, 100]
abbrev qw_feel : List Int := [102, 101, 101, 108]
abbrev qw_fog : List Int := [102, 111, 103]
abbrev qw_for : List Int := [102, 111, 114]
abbrev qw_hat : List Int := [104, 97, 116]
abbrev qw_hour : List Int := [104, 111, 117, 114]
abbrev qw_if : List Int := [105, 102]
abbrev qw_in : List Int := [105, 110]
abbrev qw_lapse : List Int := [108, 97, 112, 115, 101]
abbrev qw_member : List Int := [109, 101, 109, 98, 101, 114]
abbrev qw_motion : List Int := [109, 111, 116, 105, 111, 110]
abbrev qw_mover : List Int := [109, 111, 118, 101, 114]
abbrev qw_not : List Int := [110, 111, 116]
abbrev qw_now : List Int := [110, 111, 119]
abbrev qw_of : List Int := [111, 102]
abbrev qw_or : List Int := [111, 114]
abbrev qw_paper : List Int := [112, 97, 112, 101, 114]
abbrev qw_place : List Int := [112, 108, 97, 99, 101]
abbrev qw_quorum : List Int := [113, 117, 111, 114, 117, 109]
abbrev qw_seats : List Int := [115, 101, 97, 116, 115]
abbrev qw_sky : List Int := [115, 107, 121]
abbrev qw_sun : List Int := [115, 117, 110]
abbrev qw_takes : List Int := [116, 97, 107, 101, 115]
abbrev qw_wet : List Int := [119, 101, 116]
abbrev qw_worth : List Int := [119, 111, 114, 116, 104]
theorem qfgN_bd {T : Int → Int} {e : Int} : ∀ (n : Nat) (a v : Int), n ≤ 4 → a ≤ e → 0 ≤ v → v ≤ qB n → (∀ k, a ≤ k → k < e → 0 ≤ T k) → a ≤ (qfgN T e n a v).2 ∧ (qfgN T e n a v).2 ≤ e ∧ 0 ≤ (qfgN T e n a v).1 ∧ (qfgN T e n a v).1 ≤ 9999 := by
  intro n
  induction n with
  | zero => intro a v _ h1 h2 h3 _; exact ⟨Int.le_refl a, h1, h2, h3⟩
  | succ n ih =>
    intro a v h0 h1 h2 h3 hT
    by_cases h : a < e ∧ 48 ≤ T a ∧ T a ≤ 57
    · rw [qfgN_yes h]
      have hB := qB_s (n := n) (by omega)
      obtain ⟨c1, c2, c3, c4⟩ := ih (a + 1) (10 * v + T a - 48) (by omega) (by omega) (by omega) (by omega) (fun k z1 z2 => hT k (by omega) z2)
      exact ⟨by omega, c2, c3, c4⟩
    · rw [qfgN_no h]
      have := qB_le (n + 1)
      exact ⟨Int.le_refl a, h1, h2, Int.le_trans h3 this⟩
/-- where a reading may stand: the place, the fault -/
def qAt (e a f : Int) : Prop := 0 ≤ a ∧ a ≤ e ∧ -1 ≤ f ∧ f ≤ 400
theorem qFig_bd {T : Int → Int} {e lo hi a f : Int} (h : qAt e a f) (he : e ≤ 400) (hT : ∀ k, 0 ≤ k → k < 400 → 0 ≤ T k) : qAt e (qFig T e lo hi a f).2.1 (qFig T e lo hi a f).2.2 ∧ ((qFig T e lo hi a f).2.2 = -1 → lo ≤ (qFig T e lo hi a f).1 ∧ (qFig T e lo hi a f).1 ≤ hi ∧ f = -1) ∧ 0 ≤ (qFig T e lo hi a f).1 ∧ (qFig T e lo hi a f).1 ≤ 9999 := by
  obtain ⟨h1, h2, h3, h4⟩ := h
  unfold qFig
  by_cases hf : f = -1
  · rw [if_pos hf]
    have hb := qskip_bd (T := T) h2
    generalize qscan qbl T e a = b at hb ⊢
    have hn := qfgN_bd (T := T) (e := e) 4 b 0 (by omega) hb.2 (by omega) (by decide) (fun k z1 z2 => hT k (by omega) (by omega))
    generalize qfgN T e 4 b 0 = r at hn ⊢
    obtain ⟨v, k⟩ := r
    simp only at hn ⊢
    unfold qAt
    split <;> refine ⟨⟨?_, ?_, ?_, ?_⟩, ?_, ?_, ?_⟩ <;> omega
  · rw [if_neg hf]
    dsimp only [qAt]
    exact ⟨⟨h1, h2, h3, h4⟩, fun z => absurd z hf, by decide, by decide⟩
theorem qRow_bd {T : Int → Int} {e many most a f : Int} (h : qAt e a f) (he : e ≤ 400) (hm : 0 ≤ many) : qAt e (qRow T e many most a f).2.1 (qRow T e many most a f).2.2 ∧ ((qRow T e many most a f).2.2 = -1 → f = -1 ∧ qmost T (qRow T e many most a f).1 many most ∧ qscan qdig T e (qRow T e many most a f).1 = (qRow T e many most a f).1 + many ∧ (qRow T e many most a f).1 + many ≤ e) ∧ 0 ≤ (qRow T e many most a f).1 ∧ (qRow T e many most a f).1 ≤ e := by
  obtain ⟨h1, h2, h3, h4⟩ := h
  unfold qRow
  by_cases hf : f = -1
  · rw [if_pos hf]
    have hb := qskip_bd (T := T) h2
    generalize qscan qbl T e a = b at hb ⊢
    have hb2 := qscan_bd (P := qdig) (T := T) (e := e) (k := b)
    by_cases hq : qscan qdig T e b = b + many ∧ qmost T b many most
    · rw [zif_t hq]
      have := hb2.2 hb.2
      dsimp only [qAt]
      exact ⟨⟨by omega, by omega, by decide, by omega⟩, fun _ => ⟨hf, hq.2, hq.1, by omega⟩, by omega, by omega⟩
    · rw [zif_f hq]
      dsimp only [qAt]
      exact ⟨⟨by omega, by omega, by omega, by omega⟩, fun z => by omega, by omega, by omega⟩
  · rw [if_neg hf]
    exact ⟨⟨h1, h2, h3, h4⟩, fun z => absurd z hf, h1, h2⟩
/-- the reference's numbers, of which row 1 is M -/
def zM (σ : zMem) (M : Int → Int) : zMem := fun o => if o = 1 then M else σ o
def zput (M : Int → Int) (k v : Int) : Int → Int := fun j => if j = k then v else M j
theorem zput_at (M : Int → Int) (k v j : Int) : zput M k v j = if j = k then v else M j := rfl
theorem zM_at (σ : zMem) (M : Int → Int) (o j : Int) : zM σ M o j = if o = 1 then M j else σ o j := by unfold zM; split <;> rfl
theorem zM_1 (σ : zMem) (M : Int → Int) : zM σ M 1 = M := rfl
theorem zM_o {σ : zMem} {M : Int → Int} {o : Int} (h : o ≠ 1) : zM σ M o = σ o := if_neg h
theorem zM_self (σ : zMem) : zM σ (σ 1) = σ := by
  funext o j
  rw [zM_at]
  split
  · rename_i h; rw [h]
  · rfl
theorem zM_M (σ : zMem) (M M' : Int → Int) : zM (zM σ M) M' = zM σ M' := by
  funext o j
  rw [zM_at, zM_at, zM_at]
  split <;> rfl
theorem pS_1 {σ : zMem} {a f : Int} : pS σ a f 1 = σ 1 := pS_o (by decide)
theorem pS_1M {σ : zMem} {M : Int → Int} {a f : Int} : pS (zM σ M) a f 1 = M := pS_o (by decide)
theorem pS_s1 {σ : zMem} {a f k v : Int} : zset (pS σ a f) 1 k v = pS (zM σ (zput (σ 1) k v)) a f := by
  funext o j
  simp only [zset_at, pS_at, zM_at, zput_at]
  by_cases ho : o = 1
  · subst ho
    by_cases hj : j = k
    · simp [hj]
    · simp [hj]
  · simp [ho]
theorem pS_sM {σ : zMem} {M : Int → Int} {a f k v : Int} : zset (pS (zM σ M) a f) 1 k v = pS (zM σ (zput M k v)) a f := by
  rw [pS_s1, zM_M, zM_1]
theorem zM_T {σ : zMem} {M : Int → Int} (h : TxI σ) (hB : σ 0 9 = -1) : TxI (zM σ M) ∧ rT (zM σ M) = rT σ ∧ zM σ M 0 = σ 0 := by
  have h0 : zM σ M 0 = σ 0 := zM_o (by decide)
  have e : rT (zM σ M) = rT σ := by unfold rT; rw [h0, hB, if_pos rfl, if_pos rfl]; exact zM_o (by decide)
  refine ⟨?_, e, h0⟩
  unfold TxI
  rw [e, h0]
  exact h
section ZHAS
variable {G : zG} {k : zK} {D pc pc' idx : Nat} {Q : zQ} {L st : List zAV} {lay : zLay} {σ C0 : zMem} {nx x a f : Int} {bb : Nat × Nat}
theorem p_has {t : Nat} {w : List Int} {n b : Int} (hR : RefL lay x) (hS : TxS lay C0) (hq : (zStr[t]?).map (fun q => q.2.2.2) = some w) (hn : (w.length : Int) = n) (hT : TxI σ) (ha : 0 ≤ a ∧ a ≤ σ 0 10) (hb : qscan qbl (rT σ) (σ 0 10) a = b) : zMM G 6 KX12_has [zP x, zP (-10 - (t : Int))] lay (rC x (pS σ a f) C0) nx (0, 0) (zR (some (zI (zbi (qhas (rT σ) (σ 0 10) b w)))) lay (rC x (pS σ (b + n * zbi (qhas (rT σ) (σ 0 10) b w)) f) C0) nx) := by
  cases hz : zStr[t]? with
  | none => rw [hz] at hq; exact absurd hq (by simp)
  | some q =>
    rw [hz] at hq
    have hw : q.2.2.2 = w := by simpa using hq
    have h := p_X12_has (G := G) (nx := nx) (f := f) hR hS hz hT ha
    rw [hw, hb, hn] at h
    exact h
theorem z_ifh_eq {p : Prop} {off b n : Int} {tgt : Nat} (hd : zD k pc (.ifCond .eq off) 3 pc') (ht : zT pc off tgt) (wt : ¬ p → zW G k D Q tgt L st lay (rC x (pS σ b f) C0) nx bb) (wf : p → zW G k D Q pc' L st lay (rC x (pS σ (b + n) f) C0) nx bb) : zW G k D Q pc L (zI (zbi p) :: st) lay (rC x (pS σ (b + n * zbi p) f) C0) nx bb :=
  z_ifb_eq hd ht (fun h => by rw [zbi_f h, Int.mul_zero, Int.add_zero]; exact wt h) (fun h => by rw [zbi_t h, Int.mul_one]; exact wf h)
theorem z_ifh_ne {p : Prop} {off b n : Int} {tgt : Nat} (hd : zD k pc (.ifCond .ne off) 3 pc') (ht : zT pc off tgt) (wt : p → zW G k D Q tgt L st lay (rC x (pS σ (b + n) f) C0) nx bb) (wf : ¬ p → zW G k D Q pc' L st lay (rC x (pS σ b f) C0) nx bb) : zW G k D Q pc L (zI (zbi p) :: st) lay (rC x (pS σ (b + n * zbi p) f) C0) nx bb :=
  z_ifb_ne hd ht (fun h => by rw [zbi_t h, Int.mul_one]; exact wt h) (fun h => by rw [zbi_f h, Int.mul_zero, Int.add_zero]; exact wf h)
end ZHAS
/-- a word that stands at b ends in the text -/
theorem qhas_bd {T : Int → Int} {e b : Int} {w : List Int} (h : qhas T e b w) (hb : b ≤ e) : b + w.length ≤ e := by
  have := (qscan_bd (P := qlet) (T := T) (e := e) (k := b)).2 hb
  have := h.1
  omega
/-- a word, and the figures behind it -/
noncomputable def qAfter (T : Int → Int) (e : Int) (w : List Int) (lo hi a f : Int) : Int × Int × Int :=
  if f = -1 then zif (qhas T e (qscan qbl T e a) w) (qFig T e lo hi (qscan qbl T e a + w.length) (-1)) (0, qscan qbl T e a, qscan qbl T e a) else (0, a, f)
theorem qFig_no {T : Int → Int} {e lo hi a f : Int} (h : f ≠ -1) : qFig T e lo hi a f = (0, a, f) := by unfold qFig; rw [if_neg h]
theorem qAfter_bd {T : Int → Int} {e lo hi a f : Int} {w : List Int} (h : qAt e a f) (he : e ≤ 400) (hT : ∀ k, 0 ≤ k → k < 400 → 0 ≤ T k) : qAt e (qAfter T e w lo hi a f).2.1 (qAfter T e w lo hi a f).2.2 ∧ ((qAfter T e w lo hi a f).2.2 = -1 → lo ≤ (qAfter T e w lo hi a f).1 ∧ (qAfter T e w lo hi a f).1 ≤ hi ∧ f = -1) ∧ 0 ≤ (qAfter T e w lo hi a f).1 ∧ (qAfter T e w lo hi a f).1 ≤ 9999 := by
  obtain ⟨h1, h2, h3, h4⟩ := h
  unfold qAfter
  by_cases hf : f = -1
  · rw [if_pos hf]
    have hb := qskip_bd (T := T) h2
    generalize qscan qbl T e a = b at hb ⊢
    by_cases hw : qhas T e b w
    · rw [zif_t hw]
      have := qhas_bd hw hb.2
      obtain ⟨c1, c2, c3⟩ := qFig_bd (T := T) (lo := lo) (hi := hi) (a := b + w.length) (f := -1) ⟨by omega, this, by decide, by decide⟩ he hT
      exact ⟨c1, fun z => ⟨(c2 z).1, (c2 z).2.1, hf⟩, c3⟩
    · rw [zif_f hw]
      dsimp only [qAt]
      exact ⟨⟨by omega, hb.2, by omega, by omega⟩, fun z => by omega, by decide, by decide⟩
  · rw [if_neg hf]
    dsimp only [qAt]
    exact ⟨⟨h1, h2, h3, h4⟩, fun z => absurd z hf, by decide, by decide⟩
theorem p_X12_after {G : zG} {lay : zLay} {σ C0 : zMem} {nx x a f : Int} {t : Nat} {w : List Int} {lo hi : Int} (hR : RefL lay x) (hS : TxS lay C0) (hq : (zStr[t]?).map (fun q => q.2.2.2) = some w) (hT : TxI σ) (ha : qAt (σ 0 10) a f) (hlo : zin lo) (hhi : zin hi) : zMM G 7 KX12_after [zP x, zP (-10 - (t : Int)), zI lo, zI hi] lay (rC x (pS σ a f) C0) nx (0, 0) (zR (some (zI (qAfter (rT σ) (σ 0 10) w lo hi a f).1)) lay (rC x (pS σ (qAfter (rT σ) (σ 0 10) w lo hi a f).2.1 (qAfter (rT σ) (σ 0 10) w lo hi a f).2.2) C0) nx) := by
  refine z_met' (L := [zP x, zP (-10 - (t : Int)), zI lo, zI hi]) gX12_after.1 rfl rfl (Nat.le_of_ble_eq_true rfl) rfl ?_
  obtain ⟨h1, h2, h3, h4⟩ := ha
  have h10 : σ 0 10 ≤ 400 := hT.2.2.1
  have hbd := qskip_bd (T := rT σ) h2
  unfold qAfter
  generalize hb : qscan qbl (rT σ) (σ 0 10) a = b at hbd ⊢
  refine z_al0 eX12_after_0 hR.ne ?_
  refine z_rg (j := 12) lX12_25 eX12_after_1 rfl hR rfl rfl ?_
  rw [pS_12]
  refine z_iconst eX12_after_4 ?_
  refine z_icmp_ne (tgt := 24) eX12_after_5 rfl ⟨⟨by omega, by omega⟩, ⟨by omega, by omega⟩⟩ (fun h5 => ?_) (fun h5 => ?_)
  · first | simp only [if_pos h5] | simp only [if_neg h5]
    refine z_al0 eX12_after_24 hR.ne ?_
    refine z_il2 eX12_after_25 ?_
    refine z_il3 eX12_after_26 ?_
    refine z_V2 eX12_after_27 vX12_105 rfl rfl (Nat.le_of_ble_eq_true rfl) (Nat.le_of_ble_eq_true rfl) hR.x (p_X12_figures hR hT ⟨by omega, by first | omega | exact qhas_bd h13 hbd.2⟩ ⟨by omega, by omega⟩ hlo hhi) ?_
    refine z_ireturn eX12_after_30 rfl ?_
    first | (rw [zif_t h13]; subst h5; exact ⟨rfl, rfl, rfl, rfl⟩) | (rw [zif_f h13, qFig_no (by omega)]; exact ⟨rfl, rfl, rfl, rfl⟩) | (rw [qFig_no h5]; exact ⟨rfl, rfl, rfl, rfl⟩)
  · refine z_al0 eX12_after_8 hR.ne ?_
    refine z_al1 eX12_after_9 (by omega) ?_
    refine z_V1 eX12_after_10 vX12_101 rfl rfl (Nat.le_of_ble_eq_true rfl) (Nat.le_of_ble_eq_true rfl) hR.x (p_has hR hS (t := t) (w := w) (n := w.length) hq rfl hT ⟨by omega, by omega⟩ (b := b) (by first | exact hb | exact hbb | assumption)) ?_
    refine z_ifh_ne (tgt := 24) eX12_after_13 rfl (fun h13 => ?_) (fun h13 => ?_)
    · first | simp only [if_pos h5] | simp only [if_neg h5]
      refine z_al0 eX12_after_24 hR.ne ?_
      refine z_il2 eX12_after_25 ?_
      refine z_il3 eX12_after_26 ?_
      refine z_V2 eX12_after_27 vX12_105 rfl rfl (Nat.le_of_ble_eq_true rfl) (Nat.le_of_ble_eq_true rfl) hR.x (p_X12_figures hR hT ⟨by omega, by first | omega | exact qhas_bd h13 hbd.2⟩ ⟨by omega, by omega⟩ hlo hhi) ?_
      refine z_ireturn eX12_after_30 rfl ?_
      first | (rw [zif_t h13]; subst h5; exact ⟨rfl, rfl, rfl, rfl⟩) | (rw [zif_f h13, qFig_no (by omega)]; exact ⟨rfl, rfl, rfl, rfl⟩) | (rw [qFig_no h5]; exact ⟨rfl, rfl, rfl, rfl⟩)
    · refine z_al0 eX12_after_16 hR.ne ?_
      refine z_al0 eX12_after_17 hR.ne ?_
      refine z_rg (j := 11) lX12_71 eX12_after_18 rfl hR rfl rfl ?_
      rw [pS_11]
      refine z_V1v eX12_after_21 vX12_97 rfl rfl (Nat.le_of_ble_eq_true rfl) (Nat.le_of_ble_eq_true rfl) hR.x (p_X12_wrong hR ⟨by omega, by omega⟩) ?_
      first | simp only [if_pos h5] | simp only [if_neg h5]
      refine z_al0 eX12_after_24 hR.ne ?_
      refine z_il2 eX12_after_25 ?_
      refine z_il3 eX12_after_26 ?_
      refine z_V2 eX12_after_27 vX12_105 rfl rfl (Nat.le_of_ble_eq_true rfl) (Nat.le_of_ble_eq_true rfl) hR.x (p_X12_figures hR hT ⟨by omega, by first | omega | exact qhas_bd h13 hbd.2⟩ ⟨by omega, by omega⟩ hlo hhi) ?_
      refine z_ireturn eX12_after_30 rfl ?_
      first | (rw [zif_t h13]; subst h5; exact ⟨rfl, rfl, rfl, rfl⟩) | (rw [zif_f h13, qFig_no (by omega)]; exact ⟨rfl, rfl, rfl, rfl⟩) | (rw [qFig_no h5]; exact ⟨rfl, rfl, rfl, rfl⟩)
/-- the name of a sky -/
noncomputable def qSky (T : Int → Int) (e a f : Int) : Int × Int × Int :=
  if f = -1 then zif (qhas T e (qscan qbl T e a) qw_sun) (0, qscan qbl T e a + 3, -1) (zif (qhas T e (qscan qbl T e a) qw_dry) (1, qscan qbl T e a + 3, -1) (zif (qhas T e (qscan qbl T e a) qw_drizzle) (2, qscan qbl T e a + 7, -1) (zif (qhas T e (qscan qbl T e a) qw_fog) (3, qscan qbl T e a + 3, -1) (zif (qhas T e (qscan qbl T e a) qw_downpour) (4, qscan qbl T e a + 8, -1) (0, qscan qbl T e a, qscan qbl T e a))))) else (0, a, f)
theorem qSky_bd {T : Int → Int} {e a f : Int} (h : qAt e a f) (he : e ≤ 400) : qAt e (qSky T e a f).2.1 (qSky T e a f).2.2 ∧ ((qSky T e a f).2.2 = -1 → f = -1) ∧ 0 ≤ (qSky T e a f).1 ∧ (qSky T e a f).1 ≤ 4 := by
  obtain ⟨h1, h2, h3, h4⟩ := h
  unfold qSky
  by_cases hf : f = -1
  · rw [if_pos hf]
    have hb := qskip_bd (T := T) h2
    generalize qscan qbl T e a = b at hb ⊢
    by_cases w0 : qhas T e b qw_sun
    · have := qhas_bd w0 hb.2
      rw [zif_t w0]; dsimp only [qAt, qw_sun, List.length] at this ⊢; omega
    rw [zif_f w0]
    by_cases w1 : qhas T e b qw_dry
    · have := qhas_bd w1 hb.2
      rw [zif_t w1]; dsimp only [qAt, qw_dry, List.length] at this ⊢; omega
    rw [zif_f w1]
    by_cases w2 : qhas T e b qw_drizzle
    · have := qhas_bd w2 hb.2
      rw [zif_t w2]; dsimp only [qAt, qw_drizzle, List.length] at this ⊢; omega
    rw [zif_f w2]
    by_cases w3 : qhas T e b qw_fog
    · have := qhas_bd w3 hb.2
      rw [zif_t w3]; dsimp only [qAt, qw_fog, List.length] at this ⊢; omega
    rw [zif_f w3]
    by_cases w4 : qhas T e b qw_downpour
    · have := qhas_bd w4 hb.2
      rw [zif_t w4]; dsimp only [qAt, qw_downpour, List.length] at this ⊢; omega
    rw [zif_f w4]
    dsimp only [qAt]; omega
  · rw [if_neg hf]
    dsimp only [qAt]
    exact ⟨⟨h1, h2, h3, h4⟩, fun z => absurd z hf, by decide, by decide⟩
theorem p_X12_sky {G : zG} {lay : zLay} {σ C0 : zMem} {nx x a f : Int} (hR : RefL lay x) (hS : TxS lay C0) (hT : TxI σ) (ha : qAt (σ 0 10) a f) : zMM G 7 KX12_sky [zP x] lay (rC x (pS σ a f) C0) nx (0, 0) (zR (some (zI (qSky (rT σ) (σ 0 10) a f).1)) lay (rC x (pS σ (qSky (rT σ) (σ 0 10) a f).2.1 (qSky (rT σ) (σ 0 10) a f).2.2) C0) nx) := by
  refine z_met' (L := [zP x, zU]) gX12_sky.1 rfl rfl (Nat.le_of_ble_eq_true rfl) rfl ?_
  obtain ⟨h1, h2, h3, h4⟩ := ha
  have h10 : σ 0 10 ≤ 400 := hT.2.2.1
  have hbd := qskip_bd (T := rT σ) h2
  by_cases hf : f = -1
  · subst hf
    unfold qSky
    rw [if_pos rfl]
    have hbb := qskip_idem (T := rT σ) (e := σ 0 10) (a := a)
    generalize hb : qscan qbl (rT σ) (σ 0 10) a = b at hbd hbb ⊢
    refine z_al0 eX12_sky_0 hR.ne ?_
    refine z_rg (j := 12) lX12_25 eX12_sky_1 rfl hR rfl rfl ?_
    rw [pS_12]
    refine z_iconst eX12_sky_4 ?_
    refine z_icmp_eq (tgt := 10) eX12_sky_5 rfl ⟨⟨by omega, by omega⟩, ⟨by omega, by omega⟩⟩ (fun h5 => ?_) (fun h5 => (by exfalso; omega))
    refine z_al0 eX12_sky_10 hR.ne ?_
    refine z_ldcS (t := 81) eX12_sky_11 rfl rfl rfl (by rw [(hS 81 _ rfl).1]) ?_
    refine z_V1 eX12_sky_13 vX12_101 rfl rfl (Nat.le_of_ble_eq_true rfl) (Nat.le_of_ble_eq_true rfl) hR.x (p_has hR hS (t := 81) (w := qw_sun) (n := 3) rfl rfl hT ⟨by omega, by omega⟩ (b := b) (by first | exact hb | exact hbb | assumption)) ?_
    refine z_ifh_eq (tgt := 23) eX12_sky_16 rfl (fun h16 => ?_) (fun h16 => ?_)
    · rw [zif_f h16]
      refine z_al0 eX12_sky_23 hR.ne ?_
      refine z_ldcS (t := 82) eX12_sky_24 rfl rfl rfl (by rw [(hS 82 _ rfl).1]) ?_
      refine z_V1 eX12_sky_26 vX12_101 rfl rfl (Nat.le_of_ble_eq_true rfl) (Nat.le_of_ble_eq_true rfl) hR.x (p_has hR hS (t := 82) (w := qw_dry) (n := 3) rfl rfl hT ⟨by omega, by omega⟩ (b := b) (by first | exact hb | exact hbb | assumption)) ?_
      refine z_ifh_eq (tgt := 36) eX12_sky_29 rfl (fun h29 => ?_) (fun h29 => ?_)
      · rw [zif_f h29]
        refine z_al0 eX12_sky_36 hR.ne ?_
        refine z_ldcS (t := 83) eX12_sky_37 rfl rfl rfl (by rw [(hS 83 _ rfl).1]) ?_
        refine z_V1 eX12_sky_39 vX12_101 rfl rfl (Nat.le_of_ble_eq_true rfl) (Nat.le_of_ble_eq_true rfl) hR.x (p_has hR hS (t := 83) (w := qw_drizzle) (n := 7) rfl rfl hT ⟨by omega, by omega⟩ (b := b) (by first | exact hb | exact hbb | assumption)) ?_
        refine z_ifh_eq (tgt := 49) eX12_sky_42 rfl (fun h42 => ?_) (fun h42 => ?_)
        · rw [zif_f h42]
          refine z_al0 eX12_sky_49 hR.ne ?_
          refine z_ldcS (t := 84) eX12_sky_50 rfl rfl rfl (by rw [(hS 84 _ rfl).1]) ?_
          refine z_V1 eX12_sky_52 vX12_101 rfl rfl (Nat.le_of_ble_eq_true rfl) (Nat.le_of_ble_eq_true rfl) hR.x (p_has hR hS (t := 84) (w := qw_fog) (n := 3) rfl rfl hT ⟨by omega, by omega⟩ (b := b) (by first | exact hb | exact hbb | assumption)) ?_
          refine z_ifh_eq (tgt := 62) eX12_sky_55 rfl (fun h55 => ?_) (fun h55 => ?_)
          · rw [zif_f h55]
            refine z_al0 eX12_sky_62 hR.ne ?_
            refine z_ldcS (t := 85) eX12_sky_63 rfl rfl rfl (by rw [(hS 85 _ rfl).1]) ?_
            refine z_V1 eX12_sky_65 vX12_101 rfl rfl (Nat.le_of_ble_eq_true rfl) (Nat.le_of_ble_eq_true rfl) hR.x (p_has hR hS (t := 85) (w := qw_downpour) (n := 8) rfl rfl hT ⟨by omega, by omega⟩ (b := b) (by first | exact hb | exact hbb | assumption)) ?_
            refine z_ifh_eq (tgt := 75) eX12_sky_68 rfl (fun h68 => ?_) (fun h68 => ?_)
            · rw [zif_f h68]
              refine z_iconst eX12_sky_75 ?_
              refine z_is1 eX12_sky_76 (Nat.ne_of_beq_eq_false rfl) ?_
              refine z_il1 eX12_sky_77 ?_
              refine z_iconst eX12_sky_78 ?_
              refine z_icmp_ne (tgt := 90) eX12_sky_79 rfl ⟨⟨by omega, by omega⟩, ⟨by omega, by omega⟩⟩ (fun h79 => (by exfalso; omega)) (fun h79 => ?_)
              refine z_al0 eX12_sky_82 hR.ne ?_
              refine z_al0 eX12_sky_83 hR.ne ?_
              refine z_V0 eX12_sky_84 vX12_94 rfl rfl (Nat.le_of_ble_eq_true rfl) (Nat.le_of_ble_eq_true rfl) hR.x (p_X12_here hR hT ⟨by omega, by omega⟩) ?_
              rw [hbb]
              refine z_V1v eX12_sky_87 vX12_97 rfl rfl (Nat.le_of_ble_eq_true rfl) (Nat.le_of_ble_eq_true rfl) hR.x (p_X12_wrong hR ⟨by omega, by omega⟩) ?_
              try rw [if_pos rfl]
              refine z_il1 eX12_sky_90 ?_
              refine z_iconst eX12_sky_91 ?_
              refine z_icmp_ne (tgt := 99) eX12_sky_92 rfl ⟨⟨by omega, by omega⟩, ⟨by omega, by omega⟩⟩ (fun h92 => (by exfalso; omega)) (fun h92 => ?_)
              refine z_iconst eX12_sky_95 ?_
              refine z_goto eX12_sky_96 (tgt := 100) rfl ?_
              refine z_ireturn eX12_sky_100 rfl ?_
              first | exact ⟨rfl, rfl, rfl, rfl⟩ | (rw [zif_t (by assumption)]; exact ⟨rfl, rfl, rfl, rfl⟩)
            · refine z_iconst eX12_sky_71 ?_
              refine z_goto eX12_sky_72 (tgt := 76) rfl ?_
              refine z_is1 eX12_sky_76 (Nat.ne_of_beq_eq_false rfl) ?_
              refine z_il1 eX12_sky_77 ?_
              refine z_iconst eX12_sky_78 ?_
              refine z_icmp_ne (tgt := 90) eX12_sky_79 rfl ⟨⟨by omega, by omega⟩, ⟨by omega, by omega⟩⟩ (fun h79 => ?_) (fun h79 => (by exfalso; omega))
              try rw [if_pos rfl]
              refine z_il1 eX12_sky_90 ?_
              refine z_iconst eX12_sky_91 ?_
              refine z_icmp_ne (tgt := 99) eX12_sky_92 rfl ⟨⟨by omega, by omega⟩, ⟨by omega, by omega⟩⟩ (fun h92 => ?_) (fun h92 => (by exfalso; omega))
              refine z_il1 eX12_sky_99 ?_
              refine z_ireturn eX12_sky_100 rfl ?_
              first | exact ⟨rfl, rfl, rfl, rfl⟩ | (rw [zif_t (by assumption)]; exact ⟨rfl, rfl, rfl, rfl⟩)
          · refine z_iconst eX12_sky_58 ?_
            refine z_goto eX12_sky_59 (tgt := 76) rfl ?_
            refine z_is1 eX12_sky_76 (Nat.ne_of_beq_eq_false rfl) ?_
            refine z_il1 eX12_sky_77 ?_
            refine z_iconst eX12_sky_78 ?_
            refine z_icmp_ne (tgt := 90) eX12_sky_79 rfl ⟨⟨by omega, by omega⟩, ⟨by omega, by omega⟩⟩ (fun h79 => ?_) (fun h79 => (by exfalso; omega))
            try rw [if_pos rfl]
            refine z_il1 eX12_sky_90 ?_
            refine z_iconst eX12_sky_91 ?_
            refine z_icmp_ne (tgt := 99) eX12_sky_92 rfl ⟨⟨by omega, by omega⟩, ⟨by omega, by omega⟩⟩ (fun h92 => ?_) (fun h92 => (by exfalso; omega))
            refine z_il1 eX12_sky_99 ?_
            refine z_ireturn eX12_sky_100 rfl ?_
            first | exact ⟨rfl, rfl, rfl, rfl⟩ | (rw [zif_t (by assumption)]; exact ⟨rfl, rfl, rfl, rfl⟩)
        · refine z_iconst eX12_sky_45 ?_
          refine z_goto eX12_sky_46 (tgt := 76) rfl ?_
          refine z_is1 eX12_sky_76 (Nat.ne_of_beq_eq_false rfl) ?_
          refine z_il1 eX12_sky_77 ?_
          refine z_iconst eX12_sky_78 ?_
          refine z_icmp_ne (tgt := 90) eX12_sky_79 rfl ⟨⟨by omega, by omega⟩, ⟨by omega, by omega⟩⟩ (fun h79 => ?_) (fun h79 => (by exfalso; omega))
          try rw [if_pos rfl]
          refine z_il1 eX12_sky_90 ?_
          refine z_iconst eX12_sky_91 ?_
          refine z_icmp_ne (tgt := 99) eX12_sky_92 rfl ⟨⟨by omega, by omega⟩, ⟨by omega, by omega⟩⟩ (fun h92 => ?_) (fun h92 => (by exfalso; omega))
          refine z_il1 eX12_sky_99 ?_
          refine z_ireturn eX12_sky_100 rfl ?_
          first | exact ⟨rfl, rfl, rfl, rfl⟩ | (rw [zif_t (by assumption)]; exact ⟨rfl, rfl, rfl, rfl⟩)
      · refine z_iconst eX12_sky_32 ?_
        refine z_goto eX12_sky_33 (tgt := 76) rfl ?_
        refine z_is1 eX12_sky_76 (Nat.ne_of_beq_eq_false rfl) ?_
        refine z_il1 eX12_sky_77 ?_
        refine z_iconst eX12_sky_78 ?_
        refine z_icmp_ne (tgt := 90) eX12_sky_79 rfl ⟨⟨by omega, by omega⟩, ⟨by omega, by omega⟩⟩ (fun h79 => ?_) (fun h79 => (by exfalso; omega))
        try rw [if_pos rfl]
        refine z_il1 eX12_sky_90 ?_
        refine z_iconst eX12_sky_91 ?_
        refine z_icmp_ne (tgt := 99) eX12_sky_92 rfl ⟨⟨by omega, by omega⟩, ⟨by omega, by omega⟩⟩ (fun h92 => ?_) (fun h92 => (by exfalso; omega))
        refine z_il1 eX12_sky_99 ?_
        refine z_ireturn eX12_sky_100 rfl ?_
        first | exact ⟨rfl, rfl, rfl, rfl⟩ | (rw [zif_t (by assumption)]; exact ⟨rfl, rfl, rfl, rfl⟩)
    · refine z_iconst eX12_sky_19 ?_
      refine z_goto eX12_sky_20 (tgt := 76) rfl ?_
      refine z_is1 eX12_sky_76 (Nat.ne_of_beq_eq_false rfl) ?_
      refine z_il1 eX12_sky_77 ?_
      refine z_iconst eX12_sky_78 ?_
      refine z_icmp_ne (tgt := 90) eX12_sky_79 rfl ⟨⟨by omega, by omega⟩, ⟨by omega, by omega⟩⟩ (fun h79 => ?_) (fun h79 => (by exfalso; omega))
      try rw [if_pos rfl]
      refine z_il1 eX12_sky_90 ?_
      refine z_iconst eX12_sky_91 ?_
      refine z_icmp_ne (tgt := 99) eX12_sky_92 rfl ⟨⟨by omega, by omega⟩, ⟨by omega, by omega⟩⟩ (fun h92 => ?_) (fun h92 => (by exfalso; omega))
      refine z_il1 eX12_sky_99 ?_
      refine z_ireturn eX12_sky_100 rfl ?_
      first | exact ⟨rfl, rfl, rfl, rfl⟩ | (rw [zif_t (by assumption)]; exact ⟨rfl, rfl, rfl, rfl⟩)
  · have e : qSky (rT σ) (σ 0 10) a f = (0, a, f) := by unfold qSky; rw [if_neg hf]
    rw [e]
    refine z_al0 eX12_sky_0 hR.ne ?_
    refine z_rg (j := 12) lX12_25 eX12_sky_1 rfl hR rfl rfl ?_
    rw [pS_12]
    refine z_iconst eX12_sky_4 ?_
    refine z_icmp_eq (tgt := 10) eX12_sky_5 rfl ⟨⟨by omega, by omega⟩, ⟨by omega, by omega⟩⟩ (fun h5 => absurd h5 hf) (fun h5 => ?_)
    refine z_iconst eX12_sky_8 ?_
    refine z_ireturn eX12_sky_9 rfl ?_
    first | exact ⟨rfl, rfl, rfl, rfl⟩ | exact zRb1 (by omega) | exact zRb0 (by omega) | exact zRe (by omega)
