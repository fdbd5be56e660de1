/-! How a motion goes. -/
theorem zsum_bnd {f : Int → Int} {c n : Int} (hn : 0 ≤ n) (h : ∀ t : Int, 0 ≤ t → t < n → 0 ≤ f t ∧ f t ≤ c) : 0 ≤ zsum f n ∧ zsum f n ≤ c * n := by
  have := zsum_le (f := f) (c := c) n.toNat (fun t h0 h1 => h t h0 (by omega))
  rwa [Int.toNat_of_nonneg hn] at this
theorem zand_1 (x : Int) : zand x 1 = (((Int32.ofInt x).toBitVec.toNat % 2 : Nat) : Int) := by
  unfold zand
  show ((Int32.ofInt x).toBitVec &&& (1#32)).toInt = _
  have h : ((Int32.ofInt x).toBitVec &&& (1#32)).toNat = (Int32.ofInt x).toBitVec.toNat % 2 := by
    rw [BitVec.toNat_and]
    exact Nat.and_one_is_mod _
  rw [BitVec.toInt_eq_toNat_of_lt (by rw [h]; omega), h]
theorem zand1_bd (x : Int) : 0 ≤ zand x 1 ∧ zand x 1 ≤ 1 := by rw [zand_1]; omega
def qbits (n : Int) : Int := zsum (fun i => zand (zshr n i) 1) 31
theorem m_X12_bits {G : zG} {lay : zLay} {σ C0 : zMem} {nx x : Int} {n : Int} : zMM G 1 KX12_bits [zI n] lay (rC x σ C0) nx (0, 0) (zR (some (zI (qbits n))) lay (rC x (σ) C0) nx) := by
  refine z_met' (L := [zI n, zU, zU]) gX12_bits.1 rfl rfl (Nat.le_of_ble_eq_true rfl) rfl ?_
  unfold qbits
  have hl : ∀ t : Int, 0 ≤ t → t ≤ 31 → zW G KX12_bits 1 (zR (some (zI (qbits n))) lay (rC x (σ) C0) nx) 4 [zI n, zI (zsum (fun i => zand (zshr n i) 1) t), zI t] [] lay (rC x (σ) C0) nx (0, 0) := by
    refine z_up (31) ?_ ?_
    · refine z_il2 eX12_bits_4 ?_
      refine z_bipush eX12_bits_5 (by decide) ?_
      refine z_icmp_ge (tgt := 24) eX12_bits_7 rfl ⟨⟨by omega, by omega⟩, ⟨by omega, by omega⟩⟩ (fun h7 => ?_) (fun h7 => (by exfalso; omega))
      refine z_il1 eX12_bits_24 ?_
      refine z_ireturn eX12_bits_25 rfl ?_
      first | exact ⟨rfl, rfl, rfl, rfl⟩ | exact zRb1 (by omega) | exact zRb0 (by omega) | exact zRe (by omega)
    · intro t h0 h1 ih
      refine z_il2 eX12_bits_4 ?_
      refine z_bipush eX12_bits_5 (by decide) ?_
      refine z_icmp_ge (tgt := 24) eX12_bits_7 rfl ⟨⟨by omega, by omega⟩, ⟨by omega, by omega⟩⟩ (fun h7 => (by exfalso; omega)) (fun h7 => ?_)
      refine z_il1 eX12_bits_10 ?_
      refine z_il0 eX12_bits_11 ?_
      refine z_il2 eX12_bits_12 ?_
      refine z_ishr eX12_bits_13 ?_
      refine z_iconst eX12_bits_14 ?_
      refine z_iand eX12_bits_15 ?_
      refine z_iadd eX12_bits_16 ?_
      refine z_is1 eX12_bits_17 (Nat.ne_of_beq_eq_false rfl) ?_
      refine z_ii2 eX12_bits_18 (Nat.ne_of_beq_eq_false rfl) ?_
      refine z_goto eX12_bits_21 (tgt := 4) rfl ?_
      rw [zsum_s _ h0] at ih; exact ih
  refine z_iconst eX12_bits_0 ?_
  refine z_is1 eX12_bits_1 (Nat.ne_of_beq_eq_false rfl) ?_
  refine z_iconst eX12_bits_2 ?_
  refine z_is2 eX12_bits_3 (Nat.ne_of_beq_eq_false rfl) ?_
  exact hl 0 (by omega) (by omega)
theorem qbits_bd (n : Int) : 0 ≤ qbits n ∧ qbits n ≤ 31 := by
  have := zsum_bnd (f := fun i => zand (zshr n i) 1) (c := 1) (n := 31) (by decide) (fun t _ _ => by
    show 0 ≤ zand (zshr n t) 1 ∧ zand (zshr n t) 1 ≤ 1
    exact zand1_bd _)
  unfold qbits
  exact ⟨this.1, by have := this.2; omega⟩
def qOuts (M : Int → Int) : Int := zors (fun p => zshl (M (46 + 4 * p + 3)) p) (M 3)
def qClamp (v : Int) : Int := if (if 20 < v then 20 else v) < 0 then 0 else (if 20 < v then 20 else v)
/-- what a member feels by the sky alone -/
def qSkyOn (M : Int → Int) (p s : Int) : Int := if s = 2 ∧ M (46 + 4 * p + 3) = 1 then M (38 + M (46 + 4 * p + 0)) else 0
noncomputable def qFelt (M : Int → Int) (p s k h : Int) : Int := if M 1 = -1 ∧ M (46 + 4 * p + 2) = 1 then 0 else qClamp (qSkyOn M p s + (qAsk M p s k h).1)
noncomputable def qLapse (M : Int → Int) (k s h : Int) : Int := if (qAsk M (M (74 + 5 * k + 0)) s k h).2.1 = 0 then (if s = 0 then 1 else 0) else (qAsk M (M (74 + 5 * k + 0)) s k h).2.2
theorem qLaw_fe {T : Int → Int} {e : Int} {F : Int → Int} {H V : Int} (hF : zFact F) (hH : H = 0 ∨ H = 1) (hV : V = 0 ∨ V = 1) (h0 : 0 ≤ e) (he : e ≤ 400) (hT : ∀ k, 0 ≤ k → k < 400 → 0 ≤ T k) : -150000 ≤ (qLaw T e (qAtom T e F H V 6) (0, 0, 0) 0).2.1.1 ∧ (qLaw T e (qAtom T e F H V 6) (0, 0, 0) 0).2.1.1 ≤ 150000 :=
  (qLaw_bd (qAtom_bd hF hH hV he hT 6) he hT (by decide) h0 rfl).2.1
theorem qAsk_bd {M : Int → Int} {p s k h : Int} (hM : zOL M) (hp : 0 ≤ p ∧ p < 7) (hs : 0 ≤ s ∧ s < 5) (hk : -1 ≤ k ∧ k < 8) (hh : 0 ≤ h ∧ h < 12) : (-150000 ≤ (qAsk M p s k h).1 ∧ (qAsk M p s k h).1 ≤ 150000) ∧ qW01 (qAsk M p s k h) := by
  have h2 := hM.1.1.s 2 rfl (by omega)
  unfold qAsk
  split
  · exact ⟨⟨by decide, by decide⟩, Or.inl rfl, Or.inl rfl⟩
  · exact ⟨qLaw_fe (qFacts_bd hM.1 hp hs hk hh) (qHat_01 _ _) (qMov_01 _ _ _) h2.1 h2.2 (fun i i0 i1 => (hM.2 i i0 i1).1), qLaw_01 ⟨Or.inl rfl, Or.inl rfl⟩⟩
theorem qClamp_bd (v : Int) : 0 ≤ qClamp v ∧ qClamp v ≤ 20 := by unfold qClamp; (repeat' split) <;> omega
theorem qFelt_bd (M : Int → Int) (p s k h : Int) : 0 ≤ qFelt M p s k h ∧ qFelt M p s k h ≤ 20 := by
  unfold qFelt
  split
  · exact ⟨by decide, by decide⟩
  · exact qClamp_bd _
theorem qLapse_01 {M : Int → Int} {k s h : Int} (hM : zOL M) (hk : 0 ≤ k ∧ k < 8) (hs : 0 ≤ s ∧ s < 5) (hh : 0 ≤ h ∧ h < 12) : qLapse M k s h = 0 ∨ qLapse M k s h = 1 := by
  have hV := hM.1.1.V hk
  have := qAsk_bd (p := M (74 + 5 * k + 0)) (k := k) hM ⟨by omega, by omega⟩ hs ⟨by omega, by omega⟩ hh
  unfold qLapse
  split
  · split <;> omega
  · exact this.2.2
theorem m_X12_feltBy {G : zG} {lay : zLay} {σ C0 : zMem} {nx x : Int} {p s k h : Int} (hR : RefL lay x) (hS : TxS lay C0) (hJ : zJs σ) (hM : zOL (σ 1)) (hp : 0 ≤ p ∧ p < 7) (hs : 0 ≤ s ∧ s < 5) (hk : -1 ≤ k ∧ k < 8) (hh : 0 ≤ h ∧ h < 12) : zMM G 66 KX12_feltBy [zP x, zI p, zI s, zI k, zI h] lay (rC x σ C0) nx (0, 0) (zX' (some (zI (qFelt (σ 1) p s k h))) (zScr σ) lay C0 nx x) := by
  refine z_met' (L := [zP x, zI p, zI s, zI k, zI h, zU]) gX12_feltBy.1 rfl rfl (Nat.le_of_ble_eq_true rfl) rfl ?_
  have hU := hM.1.1.U hp
  have hE := hM.1.1.E (k := σ 1 (46 + 4 * p + 0)) ⟨by omega, by omega⟩
  have h1 := hM.1.1.s 1 rfl (by omega)
  have hb := (qAsk_bd hM hp hs hk hh).1
  have w22 : ¬ (σ 1 1 = -1 ∧ σ 1 (46 + 4 * p + 2) = 1) → zW G KX12_feltBy 66 (zX' (some (zI (qFelt (σ 1) p s k h))) (zScr σ) lay C0 nx x) 22 [zP x, zI p, zI s, zI k, zI h, zU] [] lay (rC x σ C0) nx (0, 0) := by
    intro hn
    unfold qFelt
    rw [if_neg hn]
    unfold qSkyOn
    generalize hq : qAsk (σ 1) p s k h = A at hb ⊢
    refine z_al0 eX12_feltBy_22 hR.ne ?_
    refine z_il1 eX12_feltBy_23 ?_
    refine z_il2 eX12_feltBy_24 ?_
    refine z_il3 eX12_feltBy_25 ?_
    refine z_il4 eX12_feltBy_26 ?_
    refine z_V4vx eX12_feltBy_28 vX12_267 rfl rfl (Nat.le_of_ble_eq_true rfl) (Nat.le_of_ble_eq_true rfl) hR.x (m_X12_asks hR hS hJ hM ⟨by omega, by omega⟩ hs ⟨by omega, by omega⟩ hh) (fun s28 hs28 => ?_)
    obtain ⟨hs28, f1, f2, f3⟩ := hs28
    rw [hq] at f1
    refine z_il2 eX12_feltBy_31 ?_
    refine z_iconst eX12_feltBy_32 ?_
    refine z_icmp_ne (tgt := 63) eX12_feltBy_33 rfl ⟨⟨by omega, by omega⟩, ⟨by omega, by omega⟩⟩ (fun h33 => ?_) (fun h33 => ?_)
    · refine z_iconst eX12_feltBy_63 ?_
      refine z_is5 eX12_feltBy_64 (Nat.ne_of_beq_eq_false rfl) ?_
      refine z_iconst eX12_feltBy_66 ?_
      refine z_bipush eX12_feltBy_67 (by decide) ?_
      refine z_il5 eX12_feltBy_69 ?_
      refine z_al0 eX12_feltBy_71 hR.ne ?_
      refine z_rg (j := 17) lX12_264 eX12_feltBy_72 rfl hR rfl rfl ?_
      rw [f1]
      refine z_iadd eX12_feltBy_75 ?_
      refine z_S2 eX12_feltBy_76 vX12_271 rfl rfl (Nat.le_of_ble_eq_true rfl) (Nat.le_of_ble_eq_true rfl) (m_X12_lesser ⟨by omega, by omega⟩) ?_
      skip
      refine z_S2 eX12_feltBy_79 vX12_274 rfl rfl (Nat.le_of_ble_eq_true rfl) (Nat.le_of_ble_eq_true rfl) (m_X12_greater ⟨by omega, by split <;> omega⟩) ?_
      refine z_ireturn eX12_feltBy_82 rfl ?_
      exact zXe hs28 (by first | (rw [if_pos (show s = 2 ∧ σ 1 (46 + 4 * p + 3) = 1 by omega)]; rfl) | (rw [if_neg (show ¬ (s = 2 ∧ σ 1 (46 + 4 * p + 3) = 1) by omega)]; rfl))
    · refine z_al0 eX12_feltBy_36 hR.ne ?_
      refine z_il1 eX12_feltBy_37 ?_
      refine z_iconst eX12_feltBy_38 ?_
      refine z_V2 eX12_feltBy_39 vX12_62 rfl rfl (Nat.le_of_ble_eq_true rfl) (Nat.le_of_ble_eq_true rfl) hR.x (m_X12_of hR ⟨by omega, by omega⟩ (by decide)) ?_
      try rw [hs28.r1]
      refine z_iconst eX12_feltBy_42 ?_
      refine z_icmp_ne (tgt := 63) eX12_feltBy_43 rfl ⟨⟨by omega, by omega⟩, ⟨by omega, by omega⟩⟩ (fun h43 => ?_) (fun h43 => ?_)
      · refine z_iconst eX12_feltBy_63 ?_
        refine z_is5 eX12_feltBy_64 (Nat.ne_of_beq_eq_false rfl) ?_
        refine z_iconst eX12_feltBy_66 ?_
        refine z_bipush eX12_feltBy_67 (by decide) ?_
        refine z_il5 eX12_feltBy_69 ?_
        refine z_al0 eX12_feltBy_71 hR.ne ?_
        refine z_rg (j := 17) lX12_264 eX12_feltBy_72 rfl hR rfl rfl ?_
        rw [f1]
        refine z_iadd eX12_feltBy_75 ?_
        refine z_S2 eX12_feltBy_76 vX12_271 rfl rfl (Nat.le_of_ble_eq_true rfl) (Nat.le_of_ble_eq_true rfl) (m_X12_lesser ⟨by omega, by omega⟩) ?_
        skip
        refine z_S2 eX12_feltBy_79 vX12_274 rfl rfl (Nat.le_of_ble_eq_true rfl) (Nat.le_of_ble_eq_true rfl) (m_X12_greater ⟨by omega, by split <;> omega⟩) ?_
        refine z_ireturn eX12_feltBy_82 rfl ?_
        exact zXe hs28 (by first | (rw [if_pos (show s = 2 ∧ σ 1 (46 + 4 * p + 3) = 1 by omega)]; rfl) | (rw [if_neg (show ¬ (s = 2 ∧ σ 1 (46 + 4 * p + 3) = 1) by omega)]; rfl))
      · refine z_al0 eX12_feltBy_46 hR.ne ?_
        refine z_ra lX12_7 eX12_feltBy_47 rfl hR rfl ?_
        refine z_bipush eX12_feltBy_50 (by decide) ?_
        refine z_al0 eX12_feltBy_52 hR.ne ?_
        refine z_il1 eX12_feltBy_53 ?_
        refine z_iconst eX12_feltBy_54 ?_
        refine z_V2 eX12_feltBy_55 vX12_62 rfl rfl (Nat.le_of_ble_eq_true rfl) (Nat.le_of_ble_eq_true rfl) hR.x (m_X12_of hR ⟨by omega, by omega⟩ (by decide)) ?_
        try rw [hs28.r1]
        refine z_iadd eX12_feltBy_58 ?_
        refine z_rl eX12_feltBy_59 hR (by decide) rfl rfl ⟨by omega, by omega⟩ ?_
        first | rw [hs28.r1] | rw [hs28.r7] | rw [hs28.r8] | rw [hs28.r5] | rw [hs28.r9] | rw [hs28.r11] | skip
        refine z_goto eX12_feltBy_60 (tgt := 64) rfl ?_
        refine z_is5 eX12_feltBy_64 (Nat.ne_of_beq_eq_false rfl) ?_
        refine z_iconst eX12_feltBy_66 ?_
        refine z_bipush eX12_feltBy_67 (by decide) ?_
        refine z_il5 eX12_feltBy_69 ?_
        refine z_al0 eX12_feltBy_71 hR.ne ?_
        refine z_rg (j := 17) lX12_264 eX12_feltBy_72 rfl hR rfl rfl ?_
        rw [f1]
        refine z_iadd eX12_feltBy_75 ?_
        refine z_S2 eX12_feltBy_76 vX12_271 rfl rfl (Nat.le_of_ble_eq_true rfl) (Nat.le_of_ble_eq_true rfl) (m_X12_lesser ⟨by omega, by omega⟩) ?_
        skip
        refine z_S2 eX12_feltBy_79 vX12_274 rfl rfl (Nat.le_of_ble_eq_true rfl) (Nat.le_of_ble_eq_true rfl) (m_X12_greater ⟨by omega, by split <;> omega⟩) ?_
        refine z_ireturn eX12_feltBy_82 rfl ?_
        exact zXe hs28 (by first | (rw [if_pos (show s = 2 ∧ σ 1 (46 + 4 * p + 3) = 1 by omega)]; rfl) | (rw [if_neg (show ¬ (s = 2 ∧ σ 1 (46 + 4 * p + 3) = 1) by omega)]; rfl))
  refine z_al0 eX12_feltBy_0 hR.ne ?_
  refine z_ra lX12_7 eX12_feltBy_1 rfl hR rfl ?_
  refine z_iconst eX12_feltBy_4 ?_
  refine z_rl eX12_feltBy_5 hR (by decide) rfl rfl ⟨by omega, by omega⟩ ?_
  refine z_iconst eX12_feltBy_6 ?_
  refine z_icmp_ne (tgt := 22) eX12_feltBy_7 rfl ⟨⟨by omega, by omega⟩, ⟨by omega, by omega⟩⟩ (fun h7 => ?_) (fun h7 => ?_)
  · first | exact w22 (fun z => h7 z.1) | exact w22 (fun z => h17 z.2)
  · refine z_al0 eX12_feltBy_10 hR.ne ?_
    refine z_il1 eX12_feltBy_11 ?_
    refine z_iconst eX12_feltBy_12 ?_
    refine z_V2 eX12_feltBy_13 vX12_62 rfl rfl (Nat.le_of_ble_eq_true rfl) (Nat.le_of_ble_eq_true rfl) hR.x (m_X12_of hR ⟨by omega, by omega⟩ (by decide)) ?_
    refine z_iconst eX12_feltBy_16 ?_
    refine z_icmp_ne (tgt := 22) eX12_feltBy_17 rfl ⟨⟨by omega, by omega⟩, ⟨by omega, by omega⟩⟩ (fun h17 => ?_) (fun h17 => ?_)
    · first | exact w22 (fun z => h7 z.1) | exact w22 (fun z => h17 z.2)
    · refine z_iconst eX12_feltBy_20 ?_
      refine z_ireturn eX12_feltBy_21 rfl ?_
      exact zXe (zScr.refl hJ) (by unfold qFelt; rw [if_pos ⟨h7, h17⟩])
theorem m_X12_lapsesIn {G : zG} {lay : zLay} {σ C0 : zMem} {nx x : Int} {k s h : Int} (hR : RefL lay x) (hS : TxS lay C0) (hJ : zJs σ) (hM : zOL (σ 1)) (hk : 0 ≤ k ∧ k < 8) (hs : 0 ≤ s ∧ s < 5) (hh : 0 ≤ h ∧ h < 12) : zMM G 66 KX12_lapsesIn [zP x, zI k, zI s, zI h] lay (rC x σ C0) nx (0, 0) (zX' (some (zI (qLapse (σ 1) k s h))) (zScr σ) lay C0 nx x) := by
  refine z_met' (L := [zP x, zI k, zI s, zI h]) gX12_lapsesIn.1 rfl rfl (Nat.le_of_ble_eq_true rfl) rfl ?_
  have hV := hM.1.1.V hk
  have hb := qAsk_bd (p := σ 1 (74 + 5 * k + 0)) (k := k) hM ⟨by omega, by omega⟩ hs ⟨by omega, by omega⟩ hh
  unfold qLapse
  generalize hq : qAsk (σ 1) (σ 1 (74 + 5 * k + 0)) s k h = A at hb ⊢
  obtain ⟨-, b1, b2⟩ := hb
  refine z_al0 eX12_lapsesIn_0 hR.ne ?_
  refine z_al0 eX12_lapsesIn_1 hR.ne ?_
  refine z_il1 eX12_lapsesIn_2 ?_
  refine z_iconst eX12_lapsesIn_3 ?_
  refine z_V2 eX12_lapsesIn_4 vX12_55 rfl rfl (Nat.le_of_ble_eq_true rfl) (Nat.le_of_ble_eq_true rfl) hR.x (m_X12_ofMotion hR ⟨by omega, by omega⟩ (by decide)) ?_
  refine z_il2 eX12_lapsesIn_7 ?_
  refine z_il1 eX12_lapsesIn_8 ?_
  refine z_il3 eX12_lapsesIn_9 ?_
  refine z_V4vx eX12_lapsesIn_10 vX12_267 rfl rfl (Nat.le_of_ble_eq_true rfl) (Nat.le_of_ble_eq_true rfl) hR.x (m_X12_asks hR hS hJ hM ⟨by omega, by omega⟩ hs ⟨by omega, by omega⟩ hh) (fun s10 hs10 => ?_)
  obtain ⟨hs10, f1, f2, f3⟩ := hs10
  rw [hq] at f2 f3
  refine z_al0 eX12_lapsesIn_13 hR.ne ?_
  refine z_rg (j := 18) lX12_258 eX12_lapsesIn_14 rfl hR rfl rfl ?_
  rw [f2]
  refine z_if_eq (tgt := 27) eX12_lapsesIn_17 rfl ⟨by omega, by omega⟩ (fun h17 => ?_) (fun h17 => ?_)
  · refine z_il2 eX12_lapsesIn_27 ?_
    refine z_if_ne (tgt := 35) eX12_lapsesIn_28 rfl ⟨by omega, by omega⟩ (fun h28 => ?_) (fun h28 => ?_)
    · refine z_iconst eX12_lapsesIn_35 ?_
      refine z_zreturn eX12_lapsesIn_36 rfl (by first | exact Or.inl rfl | exact Or.inr rfl | assumption) ?_
      exact zXe hs10 (by first | (rw [if_neg h17]) | (rw [if_pos h17, if_pos h28]) | (rw [if_pos h17, if_neg h28]))
    · refine z_iconst eX12_lapsesIn_31 ?_
      refine z_goto eX12_lapsesIn_32 (tgt := 36) rfl ?_
      refine z_zreturn eX12_lapsesIn_36 rfl (by first | exact Or.inl rfl | exact Or.inr rfl | assumption) ?_
      exact zXe hs10 (by first | (rw [if_neg h17]) | (rw [if_pos h17, if_pos h28]) | (rw [if_pos h17, if_neg h28]))
  · refine z_al0 eX12_lapsesIn_20 hR.ne ?_
    refine z_rg (j := 19) lX12_261 eX12_lapsesIn_21 rfl hR rfl rfl ?_
    rw [f3]
    refine z_goto eX12_lapsesIn_24 (tgt := 36) rfl ?_
    refine z_zreturn eX12_lapsesIn_36 rfl (by first | exact Or.inl rfl | exact Or.inr rfl | assumption) ?_
    exact zXe hs10 (by first | (rw [if_neg h17]) | (rw [if_pos h17, if_pos h28]) | (rw [if_pos h17, if_neg h28]))
noncomputable def qOne (M : Int → Int) (k : Int) : Int := zsum (fun p => if M (46 + 4 * p + 3) = 0 then 0 else if zbit (M (74 + 5 * k + 3)) p = 1 then M (46 + 4 * p + 1) else 0) (M 3)
noncomputable def qOther (M : Int → Int) (k : Int) : Int := zsum (fun p => if M (46 + 4 * p + 3) = 0 then 0 else if zbit (M (74 + 5 * k + 3)) p = 1 then 0 else M (46 + 4 * p + 1)) (M 3)
/-- by votes: aye is 1 if the drizzle is for it -/
noncomputable def qVotes (M : Int → Int) (k s : Int) (aye : Int) : Int :=
  if (if aye = 1 then M 10 else 0) + qOne M k = (if aye = 0 ∧ s = 2 then M 10 else 0) + qOther M k then (if aye = 1 then 1 else 2) else if (if aye = 0 ∧ s = 2 then M 10 else 0) + qOther M k < (if aye = 1 then M 10 else 0) + qOne M k then 1 else 2
noncomputable def qGo (M : Int → Int) (k s h : Int) : Int :=
  if qLapse M k s h = 1 then 3 else if qbits (qOuts M) < M 8 then 2 else qVotes M k s (if M 9 ≤ qFelt M (M (74 + 5 * k + 0)) s k h then 1 else 0)
theorem qVotes_12 (M : Int → Int) (k s aye : Int) : qVotes M k s aye = 1 ∨ qVotes M k s aye = 2 := by unfold qVotes; (repeat' split) <;> omega
theorem qGo_bd (M : Int → Int) (k s h : Int) : 1 ≤ qGo M k s h ∧ qGo M k s h ≤ 3 := by
  unfold qGo
  split
  · decide
  · split
    · decide
    · have := qVotes_12 M k s (if M 9 ≤ qFelt M (M (74 + 5 * k + 0)) s k h then 1 else 0)
      omega
theorem qOne_bd {M : Int → Int} (hM : zOK M) (k : Int) : 0 ≤ qOne M k ∧ qOne M k ≤ 140 := by
  have h3 := hM.1.m3
  have := zsum_bnd (f := fun p => if M (46 + 4 * p + 3) = 0 then 0 else if zbit (M (74 + 5 * k + 3)) p = 1 then M (46 + 4 * p + 1) else 0) (c := 20) h3.1 (fun t h0 h1 => by
    have hU := hM.1.U (p := t) ⟨h0, by omega⟩
    (repeat' split) <;> omega)
  unfold qOne
  omega
theorem qOther_bd {M : Int → Int} (hM : zOK M) (k : Int) : 0 ≤ qOther M k ∧ qOther M k ≤ 140 := by
  have h3 := hM.1.m3
  have := zsum_bnd (f := fun p => if M (46 + 4 * p + 3) = 0 then 0 else if zbit (M (74 + 5 * k + 3)) p = 1 then 0 else M (46 + 4 * p + 1)) (c := 20) h3.1 (fun t h0 h1 => by
    have hU := hM.1.U (p := t) ⟨h0, by omega⟩
    (repeat' split) <;> omega)
  unfold qOther
  omega
theorem m_X12_goesIn {G : zG} {lay : zLay} {σ C0 : zMem} {nx x : Int} {k s h : Int} (hR : RefL lay x) (hS : TxS lay C0) (hJ : zJs σ) (hM : zOL (σ 1)) (hk : 0 ≤ k ∧ k < 8) (hs : 0 ≤ s ∧ s < 5) (hh : 0 ≤ h ∧ h < 12) : zMM G 67 KX12_goesIn [zP x, zI k, zI s, zI h] lay (rC x σ C0) nx (0, 0) (zX' (some (zI (qGo (σ 1) k s h))) (zScr σ) lay C0 nx x) := by
  refine z_met' (L := [zP x, zI k, zI s, zI h, zU, zU, zU, zU]) gX12_goesIn.1 rfl rfl (Nat.le_of_ble_eq_true rfl) rfl ?_
  have h3 := hM.1.1.m3
  have h8 := hM.1.1.s 8 rfl (by omega)
  have h9 := hM.1.1.s 9 rfl (by omega)
  have h10 := hM.1.1.s 10 rfl (by omega)
  have hV := hM.1.1.V hk
  have hl := qLapse_01 hM hk hs hh
  have hbb := qbits_bd (qOuts (σ 1))
  have hf := qFelt_bd (σ 1) (σ 1 (74 + 5 * k + 0)) s k h
  have ho1 := qOne_bd hM.1 k
  have ho2 := qOther_bd hM.1 k
  have w105 : ∀ (S : zMem) (aye : Int), zScr σ S → (aye = 0 ∨ aye = 1) → zW G KX12_goesIn 67 (zX' (some (zI (qVotes (σ 1) k s aye))) (zScr σ) lay C0 nx x) 105 [zP x, zI k, zI s, zI h, zI aye, zI (if aye = 1 then σ 1 10 else 0), zI (if aye = 0 ∧ s = 2 then σ 1 10 else 0), zI 0] [] lay (rC x S C0) nx (0, 0) := by
    intro S aye hSc ha
    unfold qVotes
    have ha1 : 0 ≤ (if aye = 1 then σ 1 10 else 0) ∧ (if aye = 1 then σ 1 10 else 0) ≤ 20 := by split <;> omega
    have ha2 : 0 ≤ (if aye = 0 ∧ s = 2 then σ 1 10 else 0) ∧ (if aye = 0 ∧ s = 2 then σ 1 10 else 0) ≤ 20 := by split <;> omega
    generalize (if aye = 1 then σ 1 10 else 0) = u at ha1 ⊢
    generalize (if aye = 0 ∧ s = 2 then σ 1 10 else 0) = v at ha2 ⊢
    unfold qOne qOther at *
    generalize hQ : zX' _ _ lay C0 nx x = Q
    have hl : ∀ t : Int, 0 ≤ t → t ≤ σ 1 3 → zW G KX12_goesIn 67 Q 105 [zP x, zI k, zI s, zI h, zI aye, zI (u + zsum (fun p => if σ 1 (46 + 4 * p + 3) = 0 then 0 else if zbit (σ 1 (74 + 5 * k + 3)) p = 1 then σ 1 (46 + 4 * p + 1) else 0) t), zI (v + zsum (fun p => if σ 1 (46 + 4 * p + 3) = 0 then 0 else if zbit (σ 1 (74 + 5 * k + 3)) p = 1 then 0 else σ 1 (46 + 4 * p + 1)) t), zI t] [] lay (rC x S C0) nx (0, 0) := by
      refine z_up (σ 1 3) ?_ ?_
      · subst hQ
        generalize zsum (fun p => if σ 1 (46 + 4 * p + 3) = 0 then 0 else if zbit (σ 1 (74 + 5 * k + 3)) p = 1 then σ 1 (46 + 4 * p + 1) else 0) (σ 1 3) = A at ho1 ⊢
        generalize zsum (fun p => if σ 1 (46 + 4 * p + 3) = 0 then 0 else if zbit (σ 1 (74 + 5 * k + 3)) p = 1 then 0 else σ 1 (46 + 4 * p + 1)) (σ 1 3) = B at ho2 ⊢
        refine z_il7 eX12_goesIn_105 ?_
        refine z_al0 eX12_goesIn_107 hR.ne ?_
        refine z_ra lX12_7 eX12_goesIn_108 rfl hR rfl ?_
        refine z_iconst eX12_goesIn_111 ?_
        refine z_rl eX12_goesIn_112 hR (by decide) rfl rfl ⟨by omega, by omega⟩ ?_
        first | rw [hSc.r1] | rw [hSc.r7] | rw [hSc.r8] | rw [hSc.r5] | rw [hSc.r9] | rw [hSc.r11] | skip
        refine z_icmp_ge (tgt := 176) eX12_goesIn_113 rfl ⟨⟨by omega, by omega⟩, ⟨by omega, by omega⟩⟩ (fun h113 => ?_) (fun h113 => (by exfalso; omega))
        refine z_il5 eX12_goesIn_176 ?_
        refine z_il6 eX12_goesIn_178 ?_
        refine z_icmp_ne (tgt := 194) eX12_goesIn_180 rfl ⟨⟨by omega, by omega⟩, ⟨by omega, by omega⟩⟩ (fun h180 => ?_) (fun h180 => ?_)
        · refine z_il5 eX12_goesIn_194 ?_
          refine z_il6 eX12_goesIn_196 ?_
          refine z_icmp_le (tgt := 205) eX12_goesIn_198 rfl ⟨⟨by omega, by omega⟩, ⟨by omega, by omega⟩⟩ (fun h198 => ?_) (fun h198 => ?_)
          · refine z_iconst eX12_goesIn_205 ?_
            refine z_ireturn eX12_goesIn_206 rfl ?_
            exact zXe hSc (by first | (rw [if_pos h180]; first | rw [if_pos (by omega)] | rw [if_neg (by omega)]) | (rw [if_neg h180]; first | rw [if_pos (by omega)] | rw [if_neg (by omega)]))
          · refine z_iconst eX12_goesIn_201 ?_
            refine z_goto eX12_goesIn_202 (tgt := 206) rfl ?_
            refine z_ireturn eX12_goesIn_206 rfl ?_
            exact zXe hSc (by first | (rw [if_pos h180]; first | rw [if_pos (by omega)] | rw [if_neg (by omega)]) | (rw [if_neg h180]; first | rw [if_pos (by omega)] | rw [if_neg (by omega)]))
        · refine z_il4 eX12_goesIn_183 ?_
          refine z_if_eq (tgt := 192) eX12_goesIn_185 rfl ⟨by omega, by omega⟩ (fun h185 => ?_) (fun h185 => ?_)
          · refine z_iconst eX12_goesIn_192 ?_
            refine z_ireturn eX12_goesIn_193 rfl ?_
            exact zXe hSc (by first | (rw [if_pos h180]; first | rw [if_pos (by omega)] | rw [if_neg (by omega)]) | (rw [if_neg h180]; first | rw [if_pos (by omega)] | rw [if_neg (by omega)]))
          · refine z_iconst eX12_goesIn_188 ?_
            refine z_goto eX12_goesIn_189 (tgt := 193) rfl ?_
            refine z_ireturn eX12_goesIn_193 rfl ?_
            exact zXe hSc (by first | (rw [if_pos h180]; first | rw [if_pos (by omega)] | rw [if_neg (by omega)]) | (rw [if_neg h180]; first | rw [if_pos (by omega)] | rw [if_neg (by omega)]))
      · intro t h0 h1 ih
        have hU := hM.1.1.U (p := t) ⟨by omega, by omega⟩
        rw [zsum_s _ h0, zsum_s _ h0, ← Int.add_assoc, ← Int.add_assoc] at ih
        refine z_il7 eX12_goesIn_105 ?_
        refine z_al0 eX12_goesIn_107 hR.ne ?_
        refine z_ra lX12_7 eX12_goesIn_108 rfl hR rfl ?_
        refine z_iconst eX12_goesIn_111 ?_
        refine z_rl eX12_goesIn_112 hR (by decide) rfl rfl ⟨by omega, by omega⟩ ?_
        first | rw [hSc.r1] | rw [hSc.r7] | rw [hSc.r8] | rw [hSc.r5] | rw [hSc.r9] | rw [hSc.r11] | skip
        refine z_icmp_ge (tgt := 176) eX12_goesIn_113 rfl ⟨⟨by omega, by omega⟩, ⟨by omega, by omega⟩⟩ (fun h113 => (by exfalso; omega)) (fun h113 => ?_)
        refine z_al0 eX12_goesIn_116 hR.ne ?_
        refine z_il7 eX12_goesIn_117 ?_
        refine z_iconst eX12_goesIn_119 ?_
        refine z_V2 eX12_goesIn_120 vX12_62 rfl rfl (Nat.le_of_ble_eq_true rfl) (Nat.le_of_ble_eq_true rfl) hR.x (m_X12_of hR ⟨by omega, by omega⟩ (by decide)) ?_
        try rw [hSc.r1]
        refine z_if_ne (tgt := 129) eX12_goesIn_123 rfl ⟨by omega, by omega⟩ (fun h123 => ?_) (fun h123 => ?_)
        · refine z_al0 eX12_goesIn_129 hR.ne ?_
          refine z_il1 eX12_goesIn_130 ?_
          refine z_iconst eX12_goesIn_131 ?_
          refine z_V2 eX12_goesIn_132 vX12_55 rfl rfl (Nat.le_of_ble_eq_true rfl) (Nat.le_of_ble_eq_true rfl) hR.x (m_X12_ofMotion hR ⟨by omega, by omega⟩ (by decide)) ?_
          try rw [hSc.r1]
          refine z_il7 eX12_goesIn_135 ?_
          refine z_S2 eX12_goesIn_137 vX12_290 rfl rfl (Nat.le_of_ble_eq_true rfl) (Nat.le_of_ble_eq_true rfl) (m_X12_isOf ) ?_
          refine z_ifb_eq (tgt := 158) eX12_goesIn_140 rfl (fun h140 => ?_) (fun h140 => ?_)
          · refine z_il6 eX12_goesIn_158 ?_
            refine z_al0 eX12_goesIn_160 hR.ne ?_
            refine z_il7 eX12_goesIn_161 ?_
            refine z_iconst eX12_goesIn_163 ?_
            refine z_V2 eX12_goesIn_164 vX12_62 rfl rfl (Nat.le_of_ble_eq_true rfl) (Nat.le_of_ble_eq_true rfl) hR.x (m_X12_of hR ⟨by omega, by omega⟩ (by decide)) ?_
            try rw [hSc.r1]
            refine z_iadd eX12_goesIn_167 ?_
            refine z_is6 eX12_goesIn_168 (Nat.ne_of_beq_eq_false rfl) ?_
            refine z_ii7 eX12_goesIn_170 (Nat.ne_of_beq_eq_false rfl) ?_
            refine z_goto eX12_goesIn_173 (tgt := 105) rfl ?_
            first | (rw [if_pos h123, if_pos h123, Int.add_zero, Int.add_zero] at ih; exact ih) | (rw [if_neg h123, if_neg h123, if_pos h140, if_pos h140, Int.add_zero] at ih; exact ih) | (rw [if_neg h123, if_neg h123, if_neg h140, if_neg h140, Int.add_zero] at ih; exact ih)
          · refine z_il5 eX12_goesIn_143 ?_
            refine z_al0 eX12_goesIn_145 hR.ne ?_
            refine z_il7 eX12_goesIn_146 ?_
            refine z_iconst eX12_goesIn_148 ?_
            refine z_V2 eX12_goesIn_149 vX12_62 rfl rfl (Nat.le_of_ble_eq_true rfl) (Nat.le_of_ble_eq_true rfl) hR.x (m_X12_of hR ⟨by omega, by omega⟩ (by decide)) ?_
            try rw [hSc.r1]
            refine z_iadd eX12_goesIn_152 ?_
            refine z_is5 eX12_goesIn_153 (Nat.ne_of_beq_eq_false rfl) ?_
            refine z_goto eX12_goesIn_155 (tgt := 170) rfl ?_
            refine z_ii7 eX12_goesIn_170 (Nat.ne_of_beq_eq_false rfl) ?_
            refine z_goto eX12_goesIn_173 (tgt := 105) rfl ?_
            first | (rw [if_pos h123, if_pos h123, Int.add_zero, Int.add_zero] at ih; exact ih) | (rw [if_neg h123, if_neg h123, if_pos h140, if_pos h140, Int.add_zero] at ih; exact ih) | (rw [if_neg h123, if_neg h123, if_neg h140, if_neg h140, Int.add_zero] at ih; exact ih)
        · refine z_goto eX12_goesIn_126 (tgt := 170) rfl ?_
          refine z_ii7 eX12_goesIn_170 (Nat.ne_of_beq_eq_false rfl) ?_
          refine z_goto eX12_goesIn_173 (tgt := 105) rfl ?_
          first | (rw [if_pos h123, if_pos h123, Int.add_zero, Int.add_zero] at ih; exact ih) | (rw [if_neg h123, if_neg h123, if_pos h140, if_pos h140, Int.add_zero] at ih; exact ih) | (rw [if_neg h123, if_neg h123, if_neg h140, if_neg h140, Int.add_zero] at ih; exact ih)
    have h0 := hl 0 (by omega) (by omega)
    rw [zsum_0, zsum_0, Int.add_zero, Int.add_zero] at h0
    exact h0
  refine z_al0 eX12_goesIn_0 hR.ne ?_
  refine z_il1 eX12_goesIn_1 ?_
  refine z_il2 eX12_goesIn_2 ?_
  refine z_il3 eX12_goesIn_3 ?_
  refine z_V3x eX12_goesIn_4 vX12_277 rfl rfl (Nat.le_of_ble_eq_true rfl) (Nat.le_of_ble_eq_true rfl) hR.x (m_X12_lapsesIn hR hS hJ hM hk hs hh) (fun s4 hs4 => ?_)
  refine z_if_eq (tgt := 12) eX12_goesIn_7 rfl ⟨by omega, by omega⟩ (fun h7 => ?_) (fun h7 => ?_)
  · refine z_al0 eX12_goesIn_12 hR.ne ?_
    refine z_V0 eX12_goesIn_13 vX12_280 rfl rfl (Nat.le_of_ble_eq_true rfl) (Nat.le_of_ble_eq_true rfl) hR.x (m_X12_outs hR (by rw [hs4.r1]; exact h3)) ?_
    try rw [hs4.r1]
    refine z_S1 eX12_goesIn_16 vX12_283 rfl rfl (Nat.le_of_ble_eq_true rfl) (Nat.le_of_ble_eq_true rfl) (m_X12_bits ) ?_
    change zW _ _ _ _ _ _ (zI (qbits (qOuts (σ 1))) :: _) _ _ _ _
    refine z_al0 eX12_goesIn_19 hR.ne ?_
    refine z_ra lX12_7 eX12_goesIn_20 rfl hR rfl ?_
    refine z_bipush eX12_goesIn_23 (by decide) ?_
    refine z_rl eX12_goesIn_25 hR (by decide) rfl rfl ⟨by omega, by omega⟩ ?_
    first | rw [hs4.r1] | rw [hs4.r7] | rw [hs4.r8] | rw [hs4.r5] | rw [hs4.r9] | rw [hs4.r11] | skip
    refine z_icmp_ge (tgt := 31) eX12_goesIn_26 rfl ⟨⟨by omega, by omega⟩, ⟨by omega, by omega⟩⟩ (fun h26 => ?_) (fun h26 => ?_)
    · refine z_al0 eX12_goesIn_31 hR.ne ?_
      refine z_al0 eX12_goesIn_32 hR.ne ?_
      refine z_il1 eX12_goesIn_33 ?_
      refine z_iconst eX12_goesIn_34 ?_
      refine z_V2 eX12_goesIn_35 vX12_55 rfl rfl (Nat.le_of_ble_eq_true rfl) (Nat.le_of_ble_eq_true rfl) hR.x (m_X12_ofMotion hR ⟨by omega, by omega⟩ (by decide)) ?_
      try rw [hs4.r1]
      refine z_il2 eX12_goesIn_38 ?_
      refine z_il1 eX12_goesIn_39 ?_
      refine z_il3 eX12_goesIn_40 ?_
      refine z_V4x eX12_goesIn_41 vX12_286 rfl rfl (Nat.le_of_ble_eq_true rfl) (Nat.le_of_ble_eq_true rfl) hR.x (m_X12_feltBy hR hS hs4.2.2 (by rw [hs4.r1]; exact hM) ⟨by omega, by omega⟩ hs ⟨by omega, by omega⟩ hh) (fun s41 hs41 => ?_)
      replace hs41 := hs4.trans hs41
      try rw [hs4.r1]
      refine z_al0 eX12_goesIn_44 hR.ne ?_
      refine z_ra lX12_7 eX12_goesIn_45 rfl hR rfl ?_
      refine z_bipush eX12_goesIn_48 (by decide) ?_
      refine z_rl eX12_goesIn_50 hR (by decide) rfl rfl ⟨by omega, by omega⟩ ?_
      first | rw [hs41.r1] | rw [hs41.r7] | rw [hs41.r8] | rw [hs41.r5] | rw [hs41.r9] | rw [hs41.r11] | skip
      refine z_icmp_lt (tgt := 58) eX12_goesIn_51 rfl ⟨⟨by omega, by omega⟩, ⟨by omega, by omega⟩⟩ (fun h51 => ?_) (fun h51 => ?_)
      · refine z_iconst eX12_goesIn_58 ?_
        refine z_is4 eX12_goesIn_59 (Nat.ne_of_beq_eq_false rfl) ?_
        refine z_il4 eX12_goesIn_61 ?_
        refine z_if_eq (tgt := 76) eX12_goesIn_63 rfl ⟨by omega, by omega⟩ (fun h63 => ?_) (fun h63 => (by exfalso; omega))
        refine z_iconst eX12_goesIn_76 ?_
        refine z_is5 eX12_goesIn_77 (Nat.ne_of_beq_eq_false rfl) ?_
        refine z_il4 eX12_goesIn_79 ?_
        refine z_if_ne (tgt := 99) eX12_goesIn_81 rfl ⟨by omega, by omega⟩ (fun h81 => (by exfalso; omega)) (fun h81 => ?_)
        refine z_il2 eX12_goesIn_84 ?_
        refine z_iconst eX12_goesIn_85 ?_
        refine z_icmp_ne (tgt := 99) eX12_goesIn_86 rfl ⟨⟨by omega, by omega⟩, ⟨by omega, by omega⟩⟩ (fun h86 => ?_) (fun h86 => ?_)
        · refine z_iconst eX12_goesIn_99 ?_
          refine z_is6 eX12_goesIn_100 (Nat.ne_of_beq_eq_false rfl) ?_
          refine z_iconst eX12_goesIn_102 ?_
          refine z_is7 eX12_goesIn_103 (Nat.ne_of_beq_eq_false rfl) ?_
          first | (rw [show qGo (σ 1) k s h = qVotes (σ 1) k s 1 by unfold qGo; rw [if_neg (by omega), if_neg (by omega), if_pos (by omega)]]; have e := w105 s41 1 hs41 (Or.inr rfl); rw [if_pos rfl, if_neg (by omega)] at e; exact e) | (rw [show qGo (σ 1) k s h = qVotes (σ 1) k s 0 by unfold qGo; rw [if_neg (by omega), if_neg (by omega), if_neg (by omega)]]; have e := w105 s41 0 hs41 (Or.inl rfl); rw [if_neg (by decide), if_pos ⟨rfl, h86⟩] at e; exact e) | (rw [show qGo (σ 1) k s h = qVotes (σ 1) k s 0 by unfold qGo; rw [if_neg (by omega), if_neg (by omega), if_neg (by omega)]]; have e := w105 s41 0 hs41 (Or.inl rfl); rw [if_neg (by decide), if_neg (by omega)] at e; exact e) | fail
        · refine z_al0 eX12_goesIn_89 hR.ne ?_
          refine z_ra lX12_7 eX12_goesIn_90 rfl hR rfl ?_
          refine z_bipush eX12_goesIn_93 (by decide) ?_
          refine z_rl eX12_goesIn_95 hR (by decide) rfl rfl ⟨by omega, by omega⟩ ?_
          first | rw [hs41.r1] | rw [hs41.r7] | rw [hs41.r8] | rw [hs41.r5] | rw [hs41.r9] | rw [hs41.r11] | skip
          refine z_goto eX12_goesIn_96 (tgt := 100) rfl ?_
          refine z_is6 eX12_goesIn_100 (Nat.ne_of_beq_eq_false rfl) ?_
          refine z_iconst eX12_goesIn_102 ?_
          refine z_is7 eX12_goesIn_103 (Nat.ne_of_beq_eq_false rfl) ?_
          first | (rw [show qGo (σ 1) k s h = qVotes (σ 1) k s 1 by unfold qGo; rw [if_neg (by omega), if_neg (by omega), if_pos (by omega)]]; have e := w105 s41 1 hs41 (Or.inr rfl); rw [if_pos rfl, if_neg (by omega)] at e; exact e) | (rw [show qGo (σ 1) k s h = qVotes (σ 1) k s 0 by unfold qGo; rw [if_neg (by omega), if_neg (by omega), if_neg (by omega)]]; have e := w105 s41 0 hs41 (Or.inl rfl); rw [if_neg (by decide), if_pos ⟨rfl, h86⟩] at e; exact e) | (rw [show qGo (σ 1) k s h = qVotes (σ 1) k s 0 by unfold qGo; rw [if_neg (by omega), if_neg (by omega), if_neg (by omega)]]; have e := w105 s41 0 hs41 (Or.inl rfl); rw [if_neg (by decide), if_neg (by omega)] at e; exact e) | fail
      · refine z_iconst eX12_goesIn_54 ?_
        refine z_goto eX12_goesIn_55 (tgt := 59) rfl ?_
        refine z_is4 eX12_goesIn_59 (Nat.ne_of_beq_eq_false rfl) ?_
        refine z_il4 eX12_goesIn_61 ?_
        refine z_if_eq (tgt := 76) eX12_goesIn_63 rfl ⟨by omega, by omega⟩ (fun h63 => (by exfalso; omega)) (fun h63 => ?_)
        refine z_al0 eX12_goesIn_66 hR.ne ?_
        refine z_ra lX12_7 eX12_goesIn_67 rfl hR rfl ?_
        refine z_bipush eX12_goesIn_70 (by decide) ?_
        refine z_rl eX12_goesIn_72 hR (by decide) rfl rfl ⟨by omega, by omega⟩ ?_
        first | rw [hs41.r1] | rw [hs41.r7] | rw [hs41.r8] | rw [hs41.r5] | rw [hs41.r9] | rw [hs41.r11] | skip
        refine z_goto eX12_goesIn_73 (tgt := 77) rfl ?_
        refine z_is5 eX12_goesIn_77 (Nat.ne_of_beq_eq_false rfl) ?_
        refine z_il4 eX12_goesIn_79 ?_
        refine z_if_ne (tgt := 99) eX12_goesIn_81 rfl ⟨by omega, by omega⟩ (fun h81 => ?_) (fun h81 => (by exfalso; omega))
        refine z_iconst eX12_goesIn_99 ?_
        refine z_is6 eX12_goesIn_100 (Nat.ne_of_beq_eq_false rfl) ?_
        refine z_iconst eX12_goesIn_102 ?_
        refine z_is7 eX12_goesIn_103 (Nat.ne_of_beq_eq_false rfl) ?_
        first | (rw [show qGo (σ 1) k s h = qVotes (σ 1) k s 1 by unfold qGo; rw [if_neg (by omega), if_neg (by omega), if_pos (by omega)]]; have e := w105 s41 1 hs41 (Or.inr rfl); rw [if_pos rfl, if_neg (by omega)] at e; exact e) | (rw [show qGo (σ 1) k s h = qVotes (σ 1) k s 0 by unfold qGo; rw [if_neg (by omega), if_neg (by omega), if_neg (by omega)]]; have e := w105 s41 0 hs41 (Or.inl rfl); rw [if_neg (by decide), if_pos ⟨rfl, h86⟩] at e; exact e) | (rw [show qGo (σ 1) k s h = qVotes (σ 1) k s 0 by unfold qGo; rw [if_neg (by omega), if_neg (by omega), if_neg (by omega)]]; have e := w105 s41 0 hs41 (Or.inl rfl); rw [if_neg (by decide), if_neg (by omega)] at e; exact e) | fail
    · refine z_iconst eX12_goesIn_29 ?_
      refine z_ireturn eX12_goesIn_30 rfl ?_
      exact zXe hs4 (by unfold qGo; rw [if_neg (by omega), if_pos (by omega)])
  · have hval : qGo (σ 1) k s h = 3 := (by unfold qGo; rw [if_pos (by omega)])
    refine z_iconst eX12_goesIn_10 ?_
    refine z_ireturn eX12_goesIn_11 rfl ?_
    exact zXe hs4 hval.symm
