/-! Conditions joined, turned and in brackets. -/
noncomputable def qChN (T : Int → Int) (e : Int) (w : List Int) (g : Int → Int → Int) (A : Int → Int × Int × Int) : Nat → Int → Int → Int → Int × Int × Int
  | 0, v, a, f => (v, a, f)
  | k + 1, v, a, f => if f = -1 then zif (qhas T e (qscan qbl T e a) w) (qChN T e w g A k (g v (A (qscan qbl T e a + w.length)).1) (A (qscan qbl T e a + w.length)).2.1 (A (qscan qbl T e a + w.length)).2.2) (v, qscan qbl T e a, -1) else (v, a, f)
def qAnd (v w : Int) : Int := if v = 0 then 0 else w
def qOr (v w : Int) : Int := if v = 0 then w else 1
noncomputable def qEv (T : Int → Int) (e : Int) (A : Int → Int × Int × Int) (a : Int) : Int × Int × Int := qChN T e qw_and qAnd A 401 (A a).1 (A a).2.1 (A a).2.2
noncomputable def qSm (T : Int → Int) (e : Int) (A : Int → Int × Int × Int) (a : Int) : Int × Int × Int := qChN T e qw_or qOr (qEv T e A) 401 (qEv T e A a).1 (qEv T e A a).2.1 (qEv T e A a).2.2
theorem qChN_bd {T : Int → Int} {e n : Int} {w : List Int} {g : Int → Int → Int} {A : Int → Int × Int × Int} (hn : 0 ≤ n) (hA : ∀ a, 0 ≤ a → a ≤ e → qC e n a (A a)) (hg : ∀ v u, (v = 0 ∨ v = 1) → (u = 0 ∨ u = 1) → (g v u = 0 ∨ g v u = 1)) : ∀ (k : Nat) (v a f : Int), qAx e n a f → (v = 0 ∨ v = 1) → qC e n a (qChN T e w g A k v a f) := by
  intro k
  induction k with
  | zero => intro v a f h hv; exact ⟨h, hv, Int.le_refl a⟩
  | succ k ih =>
    intro v a f h hv
    unfold qChN
    by_cases hf : f = -1
    · rw [if_pos hf]
      obtain ⟨h1, h2, h3, h4, h5⟩ := h
      have hb := qskip_bd (T := T) (h3 hf)
      generalize qscan qbl T e a = b at hb ⊢
      by_cases hw : qhas T e b w
      · rw [zif_t hw]
        have := qhas_bd hw hb.2
        have hr := hA (b + w.length) (by omega) (by omega)
        generalize A (b + w.length) = r at hr ⊢
        have := ih (g v r.1) r.2.1 r.2.2 hr.1 (hg _ _ hv hr.2.1)
        exact ⟨this.1, this.2.1, by have := this.2.2; have := hr.2.2; omega⟩
      · rw [zif_f hw]
        exact ⟨⟨by show 0 ≤ b; omega, by show b ≤ e + n; omega, fun _ => hb.2, by show (-1 : Int) ≤ -1; decide, by show (-1 : Int) ≤ 400; decide⟩, hv, hb.1⟩
    · rw [if_neg hf]
      exact ⟨h, hv, Int.le_refl a⟩
theorem qAnd_01 (v u : Int) (_hv : v = 0 ∨ v = 1) (hu : u = 0 ∨ u = 1) : qAnd v u = 0 ∨ qAnd v u = 1 := by unfold qAnd; split <;> omega
theorem qOr_01 (v u : Int) (_hv : v = 0 ∨ v = 1) (hu : u = 0 ∨ u = 1) : qOr v u = 0 ∨ qOr v u = 1 := by unfold qOr; split <;> omega
theorem qEv_bd {T : Int → Int} {e n : Int} {A : Int → Int × Int × Int} (hn : 0 ≤ n) (hA : ∀ a, 0 ≤ a → a ≤ e → qC e n a (A a)) (a : Int) (h0 : 0 ≤ a) (h1 : a ≤ e) : qC e n a (qEv T e A a) := by
  have h := hA a h0 h1
  have h2 := qChN_bd (T := T) (w := qw_and) hn hA qAnd_01 401 (A a).1 (A a).2.1 (A a).2.2 h.1 h.2.1
  exact ⟨h2.1, h2.2.1, Int.le_trans h.2.2 h2.2.2⟩
theorem qSm_bd {T : Int → Int} {e n : Int} {A : Int → Int × Int × Int} (hn : 0 ≤ n) (hA : ∀ a, 0 ≤ a → a ≤ e → qC e n a (A a)) (a : Int) (h0 : 0 ≤ a) (h1 : a ≤ e) : qC e n a (qSm T e A a) := by
  have h := qEv_bd (T := T) hn hA a h0 h1
  have h2 := qChN_bd (T := T) (w := qw_or) hn (qEv_bd (T := T) hn hA) qOr_01 401 (qEv T e A a).1 (qEv T e A a).2.1 (qEv T e A a).2.2 h.1 h.2.1
  exact ⟨h2.1, h2.2.1, Int.le_trans h.2.2 h2.2.2⟩
section ZCH
variable {G : zG} {lay : zLay} {σ C0 : zMem} {nx x : Int}
/-- a method that reads from a place on, the fault none: A tells what comes of it -/
def zRd (G : zG) (D : Nat) (k : zK) (lay : zLay) (σ C0 : zMem) (nx x : Int) (A : Int → Int × Int × Int) : Prop := ∀ a, 0 ≤ a → a ≤ σ 0 10 → zMM G D k [zP x] lay (rC x (pS σ a (-1)) C0) nx (0, 0) (zR (some (zI (A a).1)) lay (rC x (pS σ (A a).2.1 (A a).2.2) C0) nx)
theorem p_every {D : Nat} {n : Int} {A : Int → Int × Int × Int} (hR : RefL lay x) (hS : TxS lay C0) (hT : TxI σ) (hD : 10 ≤ D) (hA : zRd G D KX12_atom lay σ C0 nx x A) (hC : ∀ a, 0 ≤ a → a ≤ σ 0 10 → qC (σ 0 10) n a (A a)) : zRd G (D + 1) KX12_every lay σ C0 nx x (qEv (rT σ) (σ 0 10) A) := by
  intro a ha0 ha1
  refine z_met' (L := [zP x, zU, zU]) gX12_every.1 rfl rfl (Nat.le_of_ble_eq_true rfl) rfl ?_
  have hl : ∀ (k : Nat) (v a f : Int) (y : zAV) (r : Int × Int × Int), qAx (σ 0 10) n a f → (v = 0 ∨ v = 1) → (f = -1 → σ 0 10 - a < k) → qChN (rT σ) (σ 0 10) qw_and qAnd A k v a f = r → zW G KX12_every (D + 1) (zR (some (zI r.1)) lay (rC x (pS σ r.2.1 r.2.2) C0) nx) 5 [zP x, zI v, y] [] lay (rC x (pS σ a f) C0) nx (0, 0) := by
    intro k
    induction k with
    | zero =>
      intro v a f y r h hv hk hr
      obtain ⟨h1, h2, h3, h4, h5⟩ := h
      have h10 : σ 0 10 ≤ 400 := hT.2.2.1
      have hff : f ≠ -1 := fun z => by have := hk z; have := h3 z; omega
      unfold qChN at hr
      subst hr
      refine z_al0 eX12_every_5 hR.ne ?_
      refine z_rg (j := 12) lX12_25 eX12_every_6 rfl hR rfl rfl ?_
      rw [pS_12]
      refine z_iconst eX12_every_9 ?_
      refine z_icmp_ne (tgt := 44) eX12_every_10 rfl ⟨⟨by omega, by omega⟩, ⟨by omega, by omega⟩⟩ (fun h10 => ?_) (fun h10 => absurd h10 hff)
      refine z_il1 eX12_every_44 ?_
      refine z_zreturn eX12_every_45 rfl (by first | exact Or.inl rfl | exact Or.inr rfl | exact zbi_01 _ | assumption | omega) ?_
      first | exact ⟨rfl, rfl, rfl, rfl⟩ | exact zRb1 (by omega) | exact zRb0 (by omega) | exact zRe (by omega)
    | succ k ih =>
      intro v a f y r h hv hk hr
      obtain ⟨h1, h2, h3, h4, h5⟩ := h
      have he : σ 0 10 ≤ 400 := hT.2.2.1
      unfold qChN at hr
      by_cases hf : f = -1
      · subst hf
        rw [if_pos rfl] at hr
        have hb := qskip_bd (T := rT σ) (h3 rfl)
        generalize hbb : qscan qbl (rT σ) (σ 0 10) a = b at hb hr
        have hc2 : qhas (rT σ) (σ 0 10) b qw_and → _ := fun z => hC (b + 3) (by omega) (by have := qhas_bd z hb.2; exact this)
        have hc3 : qhas (rT σ) (σ 0 10) b qw_and → b + 3 ≤ σ 0 10 := fun z => qhas_bd z hb.2
        generalize hq : A (b + 3) = s at hc2
        refine z_al0 eX12_every_5 hR.ne ?_
        refine z_rg (j := 12) lX12_25 eX12_every_6 rfl hR rfl rfl ?_
        rw [pS_12]
        refine z_iconst eX12_every_9 ?_
        refine z_icmp_ne (tgt := 44) eX12_every_10 rfl ⟨⟨by omega, by omega⟩, ⟨by omega, by omega⟩⟩ (fun h10 => (by exfalso; omega)) (fun h10 => ?_)
        refine z_al0 eX12_every_13 hR.ne ?_
        refine z_ldcS (t := 74) eX12_every_14 rfl rfl rfl (by rw [(hS 74 _ rfl).1]) ?_
        refine z_V1 eX12_every_16 vX12_101 rfl rfl (by omega) (Nat.le_of_ble_eq_true rfl) hR.x (p_has hR hS (t := 74) (w := qw_and) (n := 3) rfl rfl hT ⟨by omega, by omega⟩ (b := b) (by first | exact hb | exact hbb | assumption)) ?_
        refine z_ifh_eq (tgt := 44) eX12_every_19 rfl (fun h19 => ?_) (fun h19 => ?_)
        · refine z_il1 eX12_every_44 ?_
          refine z_zreturn eX12_every_45 rfl (by first | exact Or.inl rfl | exact Or.inr rfl | exact zbi_01 _ | assumption | omega) ?_
          rw [zif_f h19] at hr; subst hr; exact ⟨rfl, rfl, rfl, rfl⟩
        · refine z_al0 eX12_every_22 hR.ne ?_
          refine z_V0 eX12_every_23 vX12_237 rfl rfl (by omega) (Nat.le_of_ble_eq_true rfl) hR.x (hA _ (by omega) (hc3 h19)) ?_
          rw [hq]
          obtain ⟨c1, c2, c3⟩ := hc2 h19
          rw [zif_t h19] at hr
          rw [show b + (qw_and.length : Int) = b + 3 from rfl, hq] at hr
          refine z_is2 eX12_every_26 (Nat.ne_of_beq_eq_false rfl) ?_
          refine z_il1 eX12_every_27 ?_
          refine z_if_eq (tgt := 39) eX12_every_28 rfl ⟨by omega, by omega⟩ (fun h28 => ?_) (fun h28 => ?_)
          · refine z_iconst eX12_every_39 ?_
            refine z_is1 eX12_every_40 (Nat.ne_of_beq_eq_false rfl) ?_
            refine z_goto eX12_every_41 (tgt := 5) rfl ?_
            first | (rw [show qAnd v s.1 = 1 by unfold qAnd; rw [if_neg (by omega)]; omega] at hr; exact ih _ _ _ _ r c1 (Or.inr rfl) (fun _ => by have := hk rfl; omega) hr) | (rw [show qAnd v s.1 = 0 by unfold qAnd; split <;> omega] at hr; exact ih _ _ _ _ r c1 (Or.inl rfl) (fun _ => by have := hk rfl; omega) hr)
          · refine z_il2 eX12_every_31 ?_
            refine z_if_eq (tgt := 39) eX12_every_32 rfl ⟨by omega, by omega⟩ (fun h32 => ?_) (fun h32 => ?_)
            · refine z_iconst eX12_every_39 ?_
              refine z_is1 eX12_every_40 (Nat.ne_of_beq_eq_false rfl) ?_
              refine z_goto eX12_every_41 (tgt := 5) rfl ?_
              first | (rw [show qAnd v s.1 = 1 by unfold qAnd; rw [if_neg (by omega)]; omega] at hr; exact ih _ _ _ _ r c1 (Or.inr rfl) (fun _ => by have := hk rfl; omega) hr) | (rw [show qAnd v s.1 = 0 by unfold qAnd; split <;> omega] at hr; exact ih _ _ _ _ r c1 (Or.inl rfl) (fun _ => by have := hk rfl; omega) hr)
            · refine z_iconst eX12_every_35 ?_
              refine z_goto eX12_every_36 (tgt := 40) rfl ?_
              refine z_is1 eX12_every_40 (Nat.ne_of_beq_eq_false rfl) ?_
              refine z_goto eX12_every_41 (tgt := 5) rfl ?_
              first | (rw [show qAnd v s.1 = 1 by unfold qAnd; rw [if_neg (by omega)]; omega] at hr; exact ih _ _ _ _ r c1 (Or.inr rfl) (fun _ => by have := hk rfl; omega) hr) | (rw [show qAnd v s.1 = 0 by unfold qAnd; split <;> omega] at hr; exact ih _ _ _ _ r c1 (Or.inl rfl) (fun _ => by have := hk rfl; omega) hr)
      · rw [if_neg hf] at hr
        subst hr
        refine z_al0 eX12_every_5 hR.ne ?_
        refine z_rg (j := 12) lX12_25 eX12_every_6 rfl hR rfl rfl ?_
        rw [pS_12]
        refine z_iconst eX12_every_9 ?_
        refine z_icmp_ne (tgt := 44) eX12_every_10 rfl ⟨⟨by omega, by omega⟩, ⟨by omega, by omega⟩⟩ (fun h10 => ?_) (fun h10 => absurd h10 hf)
        refine z_il1 eX12_every_44 ?_
        refine z_zreturn eX12_every_45 rfl (by first | exact Or.inl rfl | exact Or.inr rfl | exact zbi_01 _ | assumption | omega) ?_
        first | exact ⟨rfl, rfl, rfl, rfl⟩ | exact zRb1 (by omega) | exact zRb0 (by omega) | exact zRe (by omega)
  have h0 := hC a ha0 ha1
  refine z_al0 eX12_every_0 hR.ne ?_
  refine z_V0 eX12_every_1 vX12_237 rfl rfl (by omega) (Nat.le_of_ble_eq_true rfl) hR.x (hA _ (by omega) (by omega)) ?_
  refine z_is1 eX12_every_4 (Nat.ne_of_beq_eq_false rfl) ?_
  exact hl 401 _ _ _ _ _ h0.1 h0.2.1 (fun _ => by have := h0.2.2; have : σ 0 10 ≤ 400 := hT.2.2.1; omega) rfl
theorem p_some {D : Nat} {n : Int} {A : Int → Int × Int × Int} (hn : 0 ≤ n) (hR : RefL lay x) (hS : TxS lay C0) (hT : TxI σ) (hD : 10 ≤ D) (hA : zRd G D KX12_every lay σ C0 nx x (qEv (rT σ) (σ 0 10) A)) (hC : ∀ a, 0 ≤ a → a ≤ σ 0 10 → qC (σ 0 10) n a (A a)) : zRd G (D + 1) KX12_some lay σ C0 nx x (qSm (rT σ) (σ 0 10) A) := by
  have hC := qEv_bd (T := rT σ) hn hC
  intro a ha0 ha1
  unfold qSm
  generalize qEv (rT σ) (σ 0 10) A = A at hA hC ⊢
  refine z_met' (L := [zP x, zU, zU]) gX12_some.1 rfl rfl (Nat.le_of_ble_eq_true rfl) rfl ?_
  have hl : ∀ (k : Nat) (v a f : Int) (y : zAV) (r : Int × Int × Int), qAx (σ 0 10) n a f → (v = 0 ∨ v = 1) → (f = -1 → σ 0 10 - a < k) → qChN (rT σ) (σ 0 10) qw_or qOr A k v a f = r → zW G KX12_some (D + 1) (zR (some (zI r.1)) lay (rC x (pS σ r.2.1 r.2.2) C0) nx) 5 [zP x, zI v, y] [] lay (rC x (pS σ a f) C0) nx (0, 0) := by
    intro k
    induction k with
    | zero =>
      intro v a f y r h hv hk hr
      obtain ⟨h1, h2, h3, h4, h5⟩ := h
      have h10 : σ 0 10 ≤ 400 := hT.2.2.1
      have hff : f ≠ -1 := fun z => by have := hk z; have := h3 z; omega
      unfold qChN at hr
      subst hr
      refine z_al0 eX12_some_5 hR.ne ?_
      refine z_rg (j := 12) lX12_25 eX12_some_6 rfl hR rfl rfl ?_
      rw [pS_12]
      refine z_iconst eX12_some_9 ?_
      refine z_icmp_ne (tgt := 44) eX12_some_10 rfl ⟨⟨by omega, by omega⟩, ⟨by omega, by omega⟩⟩ (fun h10 => ?_) (fun h10 => absurd h10 hff)
      refine z_il1 eX12_some_44 ?_
      refine z_zreturn eX12_some_45 rfl (by first | exact Or.inl rfl | exact Or.inr rfl | exact zbi_01 _ | assumption | omega) ?_
      first | exact ⟨rfl, rfl, rfl, rfl⟩ | exact zRb1 (by omega) | exact zRb0 (by omega) | exact zRe (by omega)
    | succ k ih =>
      intro v a f y r h hv hk hr
      obtain ⟨h1, h2, h3, h4, h5⟩ := h
      have he : σ 0 10 ≤ 400 := hT.2.2.1
      unfold qChN at hr
      by_cases hf : f = -1
      · subst hf
        rw [if_pos rfl] at hr
        have hb := qskip_bd (T := rT σ) (h3 rfl)
        generalize hbb : qscan qbl (rT σ) (σ 0 10) a = b at hb hr
        have hc2 : qhas (rT σ) (σ 0 10) b qw_or → _ := fun z => hC (b + 2) (by omega) (by have := qhas_bd z hb.2; exact this)
        have hc3 : qhas (rT σ) (σ 0 10) b qw_or → b + 2 ≤ σ 0 10 := fun z => qhas_bd z hb.2
        generalize hq : A (b + 2) = s at hc2
        refine z_al0 eX12_some_5 hR.ne ?_
        refine z_rg (j := 12) lX12_25 eX12_some_6 rfl hR rfl rfl ?_
        rw [pS_12]
        refine z_iconst eX12_some_9 ?_
        refine z_icmp_ne (tgt := 44) eX12_some_10 rfl ⟨⟨by omega, by omega⟩, ⟨by omega, by omega⟩⟩ (fun h10 => (by exfalso; omega)) (fun h10 => ?_)
        refine z_al0 eX12_some_13 hR.ne ?_
        refine z_ldcS (t := 75) eX12_some_14 rfl rfl rfl (by rw [(hS 75 _ rfl).1]) ?_
        refine z_V1 eX12_some_16 vX12_101 rfl rfl (by omega) (Nat.le_of_ble_eq_true rfl) hR.x (p_has hR hS (t := 75) (w := qw_or) (n := 2) rfl rfl hT ⟨by omega, by omega⟩ (b := b) (by first | exact hb | exact hbb | assumption)) ?_
        refine z_ifh_eq (tgt := 44) eX12_some_19 rfl (fun h19 => ?_) (fun h19 => ?_)
        · refine z_il1 eX12_some_44 ?_
          refine z_zreturn eX12_some_45 rfl (by first | exact Or.inl rfl | exact Or.inr rfl | exact zbi_01 _ | assumption | omega) ?_
          rw [zif_f h19] at hr; subst hr; exact ⟨rfl, rfl, rfl, rfl⟩
        · refine z_al0 eX12_some_22 hR.ne ?_
          refine z_V0 eX12_some_23 vX12_245 rfl rfl (by omega) (Nat.le_of_ble_eq_true rfl) hR.x (hA _ (by omega) (hc3 h19)) ?_
          rw [hq]
          obtain ⟨c1, c2, c3⟩ := hc2 h19
          rw [zif_t h19] at hr
          rw [show b + (qw_or.length : Int) = b + 2 from rfl, hq] at hr
          refine z_is2 eX12_some_26 (Nat.ne_of_beq_eq_false rfl) ?_
          refine z_il1 eX12_some_27 ?_
          refine z_if_ne (tgt := 35) eX12_some_28 rfl ⟨by omega, by omega⟩ (fun h28 => ?_) (fun h28 => ?_)
          · refine z_iconst eX12_some_35 ?_
            refine z_goto eX12_some_36 (tgt := 40) rfl ?_
            refine z_is1 eX12_some_40 (Nat.ne_of_beq_eq_false rfl) ?_
            refine z_goto eX12_some_41 (tgt := 5) rfl ?_
            first | (rw [show qOr v s.1 = 1 by unfold qOr; split <;> omega] at hr; exact ih _ _ _ _ r c1 (Or.inr rfl) (fun _ => by have := hk rfl; omega) hr) | (rw [show qOr v s.1 = 0 by unfold qOr; split <;> omega] at hr; exact ih _ _ _ _ r c1 (Or.inl rfl) (fun _ => by have := hk rfl; omega) hr)
          · refine z_il2 eX12_some_31 ?_
            refine z_if_eq (tgt := 39) eX12_some_32 rfl ⟨by omega, by omega⟩ (fun h32 => ?_) (fun h32 => ?_)
            · refine z_iconst eX12_some_39 ?_
              refine z_is1 eX12_some_40 (Nat.ne_of_beq_eq_false rfl) ?_
              refine z_goto eX12_some_41 (tgt := 5) rfl ?_
              first | (rw [show qOr v s.1 = 1 by unfold qOr; split <;> omega] at hr; exact ih _ _ _ _ r c1 (Or.inr rfl) (fun _ => by have := hk rfl; omega) hr) | (rw [show qOr v s.1 = 0 by unfold qOr; split <;> omega] at hr; exact ih _ _ _ _ r c1 (Or.inl rfl) (fun _ => by have := hk rfl; omega) hr)
            · refine z_iconst eX12_some_35 ?_
              refine z_goto eX12_some_36 (tgt := 40) rfl ?_
              refine z_is1 eX12_some_40 (Nat.ne_of_beq_eq_false rfl) ?_
              refine z_goto eX12_some_41 (tgt := 5) rfl ?_
              first | (rw [show qOr v s.1 = 1 by unfold qOr; split <;> omega] at hr; exact ih _ _ _ _ r c1 (Or.inr rfl) (fun _ => by have := hk rfl; omega) hr) | (rw [show qOr v s.1 = 0 by unfold qOr; split <;> omega] at hr; exact ih _ _ _ _ r c1 (Or.inl rfl) (fun _ => by have := hk rfl; omega) hr)
      · rw [if_neg hf] at hr
        subst hr
        refine z_al0 eX12_some_5 hR.ne ?_
        refine z_rg (j := 12) lX12_25 eX12_some_6 rfl hR rfl rfl ?_
        rw [pS_12]
        refine z_iconst eX12_some_9 ?_
        refine z_icmp_ne (tgt := 44) eX12_some_10 rfl ⟨⟨by omega, by omega⟩, ⟨by omega, by omega⟩⟩ (fun h10 => ?_) (fun h10 => absurd h10 hf)
        refine z_il1 eX12_some_44 ?_
        refine z_zreturn eX12_some_45 rfl (by first | exact Or.inl rfl | exact Or.inr rfl | exact zbi_01 _ | assumption | omega) ?_
        first | exact ⟨rfl, rfl, rfl, rfl⟩ | exact zRb1 (by omega) | exact zRb0 (by omega) | exact zRe (by omega)
  have h0 := hC a ha0 ha1
  refine z_al0 eX12_some_0 hR.ne ?_
  refine z_V0 eX12_some_1 vX12_245 rfl rfl (by omega) (Nat.le_of_ble_eq_true rfl) hR.x (hA _ (by omega) (by omega)) ?_
  refine z_is1 eX12_some_4 (Nat.ne_of_beq_eq_false rfl) ?_
  exact hl 401 _ _ _ _ _ h0.1 h0.2.1 (fun _ => by have := h0.2.2; have : σ 0 10 ≤ 400 := hT.2.2.1; omega) rfl
end ZCH
