/-! What the law says of a member, a sky, a motion, an hour. -/
theorem zset_fo {C : zMem} {o j v j2 : Int} (h : j2 ≠ j) : zset C o j v o j2 = C o j2 := zset_f h
theorem zset_oo {C : zMem} {o j v o2 j2 : Int} (h : o2 ≠ o) : zset C o j v o2 j2 = C o2 j2 := by rw [zset_o h]
theorem zXe {P : zMem → Prop} {lay : zLay} {s C0 : zMem} {nx x v w : Int} (h : P s) (e : v = w) : zX' (some (zI w)) P lay C0 nx x (.inl (some (zI v))) lay (rC x s C0) nx := ⟨s, h, by rw [e], rfl, rfl, rfl⟩
theorem zXv {P : zMem → Prop} {lay : zLay} {s C0 : zMem} {nx x : Int} (h : P s) : zX' none P lay C0 nx x (.inl none) lay (rC x s C0) nx := ⟨s, h, rfl, rfl, rfl, rfl⟩
/-- the row, and the law's letters -/
def zOL (M : Int → Int) : Prop := zOK M ∧ ∀ i, 0 ≤ i → i < 400 → 0 ≤ M (426 + i) ∧ M (426 + i) ≤ 255
def qFacts (M : Int → Int) (p s k h : Int) : Int → Int := fun j => if j = 0 then p else if j = 1 then M (38 + M (46 + 4 * p + 0)) else if j = 2 then M (46 + 4 * p + 1) else if j = 3 then s else if j = 4 then h else if j = 5 then (if k = -1 then 8 else k) else (if k = -1 then 0 else M (74 + 5 * k + 2))
def qHat (M : Int → Int) (p : Int) : Int := if M (46 + 4 * p + 2) = 1 then 1 else 0
def qMov (M : Int → Int) (p k : Int) : Int := if k = -1 then 0 else if M (74 + 5 * k + 0) = p then 1 else 0
/-- feelings, whether a lapse is spoken of, whether one is -/
noncomputable def qAsk (M : Int → Int) (p s k h : Int) : Int × Int × Int :=
  if M 1 < 1 then (0, 0, 0) else (qLaw (fun i => M (426 + i)) (M 2) (qAtom (fun i => M (426 + i)) (M 2) (qFacts M p s k h) (qHat M p) (qMov M p k) 6) (0, 0, 0) 0).2.1
theorem zInv.V {M : Int → Int} (h : zInv M) {k : Int} (hk : 0 ≤ k ∧ k < 8) : (0 ≤ M (74 + 5 * k + 0) ∧ M (74 + 5 * k + 0) ≤ 6) ∧ (0 ≤ M (74 + 5 * k + 1) ∧ M (74 + 5 * k + 1) ≤ 9) ∧ (0 ≤ M (74 + 5 * k + 2) ∧ M (74 + 5 * k + 2) ≤ 99) ∧ (0 ≤ M (74 + 5 * k + 4) ∧ M (74 + 5 * k + 4) ≤ 3) := by
  refine ⟨?_, ?_, ?_, ?_⟩
  · exact h.at (lo := 0) (hi := 6) (by rw [zBd_V hk ⟨by omega, by omega⟩]; rfl) ⟨by omega, by omega⟩ (by unfold zFree; omega)
  · exact h.at (lo := 0) (hi := 9) (by rw [zBd_V hk ⟨by omega, by omega⟩]; rfl) ⟨by omega, by omega⟩ (by unfold zFree; omega)
  · exact h.at (lo := 0) (hi := 99) (by rw [zBd_V hk ⟨by omega, by omega⟩]; rfl) ⟨by omega, by omega⟩ (by unfold zFree; omega)
  · exact h.at (lo := 0) (hi := 3) (by rw [zBd_V hk ⟨by omega, by omega⟩]; rfl) ⟨by omega, by omega⟩ (by unfold zFree; omega)
theorem zInv.E {M : Int → Int} (h : zInv M) {k : Int} (hk : 0 ≤ k ∧ k < 8) : 0 ≤ M (38 + k) ∧ M (38 + k) ≤ 9 :=
  h.at (lo := 0) (hi := 9) (zBd_E hk) ⟨by omega, by omega⟩ (by unfold zFree; omega)
theorem qFacts_bd {M : Int → Int} {p s k h : Int} (hM : zOK M) (hp : 0 ≤ p ∧ p < 7) (hs : 0 ≤ s ∧ s < 5) (hk : -1 ≤ k ∧ k < 8) (hh : 0 ≤ h ∧ h < 12) : zFact (qFacts M p s k h) := by
  intro j h0 h1
  have hU := hM.1.U hp
  have hE := hM.1.E (k := M (46 + 4 * p + 0)) ⟨by omega, by omega⟩
  have hV : k ≠ -1 → _ := fun z => hM.1.V (k := k) ⟨by omega, by omega⟩
  unfold qFacts
  split
  · omega
  · split
    · omega
    · split
      · omega
      · split
        · omega
        · split
          · omega
          · split
            · split <;> omega
            · split
              · omega
              · rename_i z
                have := hV z
                omega
theorem qHat_01 (M : Int → Int) (p : Int) : qHat M p = 0 ∨ qHat M p = 1 := by unfold qHat; split <;> omega
theorem qMov_01 (M : Int → Int) (p k : Int) : qMov M p k = 0 ∨ qMov M p k = 1 := by unfold qMov; split; omega; split <;> omega
/-- the numbers as the law is read for a member -/
def zS9 (σ : zMem) (p s k h : Int) (S : zMem) : Prop := (∀ j, zNs j → j ≠ 12 → S 0 j = σ 0 j) ∧ (∀ o, o ≠ 0 → o ≠ 6 → S o = σ o) ∧ (∀ j, 0 ≤ j → j < 7 → S 6 j = qFacts (σ 1) p s k h j) ∧ S 0 9 = 426 ∧ S 0 10 = σ 1 2 ∧ S 0 11 = 0 ∧ S 0 12 = -1 ∧ S 0 13 = 0 ∧ S 0 15 = qHat (σ 1) p ∧ S 0 16 = qMov (σ 1) p k ∧ S 0 17 = 0 ∧ S 0 18 = 0 ∧ S 0 19 = 0
theorem zS9_mk {σ : zMem} {p s k h e q f5 f6 H V d : Int} (h1 : e = σ 1 (38 + σ 1 (46 + 4 * p + 0))) (h2 : q = σ 1 (46 + 4 * p + 1)) (h5 : f5 = if k = -1 then 8 else k) (h6 : f6 = if k = -1 then 0 else σ 1 (74 + 5 * k + 2)) (hH : H = qHat (σ 1) p) (hV : V = qMov (σ 1) p k) (hd : d = σ 1 2) : zS9 σ p s k h (zset (zset (zset (zset (zset (zset (zset (zset (zset (zset (zset (zset (zset (zset (zset (zset (zset σ 0 17 0) 0 18 0) 0 19 0) 6 0 p) 6 1 e) 6 2 q) 6 3 s) 6 4 h) 6 5 f5) 6 6 f6) 0 15 H) 0 16 V) 0 12 (-1)) 0 9 426) 0 10 d) 0 11 0) 0 13 0) := by
  subst hH hV hd
  refine ⟨fun j hj hj12 => ?_, fun o h0 h6 => ?_, fun j j0 j1 => ?_, by simp [zset_at], by simp [zset_at], by simp [zset_at], by simp [zset_at], by simp [zset_at], by simp [zset_at], by simp [zset_at], by simp [zset_at], by simp [zset_at], by simp [zset_at]⟩
  · unfold zNs at hj
    simp only [zset_at]
    repeat rw [if_neg (by omega)]
  · funext j
    simp only [zset_at]
    repeat rw [if_neg (by omega)]
  · have hj : j = 0 ∨ j = 1 ∨ j = 2 ∨ j = 3 ∨ j = 4 ∨ j = 5 ∨ j = 6 := by omega
    unfold qFacts
    rcases hj with e | e | e | e | e | e | e <;> subst e <;> simp [zset_at] <;> first | assumption | (rw [h1, Int.add_zero])
theorem m_X12_asks {G : zG} {lay : zLay} {σ C0 : zMem} {nx x : Int} {p s k h : Int} (hR : RefL lay x) (hS : TxS lay C0) (hJ : zJs σ) (hM : zOL (σ 1)) (hp : 0 ≤ p ∧ p < 7) (hs : 0 ≤ s ∧ s < 5) (hk : -1 ≤ k ∧ k < 8) (hh : 0 ≤ h ∧ h < 12) : zMM G 65 KX12_asks [zP x, zI p, zI s, zI k, zI h] lay (rC x σ C0) nx (0, 0) (zX' none (fun q => zScr σ q ∧ q 0 17 = (qAsk (σ 1) p s k h).1 ∧ q 0 18 = (qAsk (σ 1) p s k h).2.1 ∧ q 0 19 = (qAsk (σ 1) p s k h).2.2) lay C0 nx x) := by
  refine z_met' (L := [zP x, zI p, zI s, zI k, zI h, zU, zU]) gX12_asks.1 rfl rfl (Nat.le_of_ble_eq_true rfl) rfl ?_
  have hU := hM.1.1.U hp
  have hE := hM.1.1.E (k := σ 1 (46 + 4 * p + 0)) ⟨by omega, by omega⟩
  have h1 := hM.1.1.s 1 rfl (by omega)
  have h2 := hM.1.1.s 2 rfl (by omega)
  have hV : k ≠ -1 → _ := fun z => hM.1.1.V (k := k) ⟨by omega, by omega⟩
  by_cases hl : σ 1 1 < 1
  · have hA : qAsk (σ 1) p s k h = (0, 0, 0) := by unfold qAsk; rw [if_pos hl]
    rw [hA]
    refine z_al0 eX12_asks_0 hR.ne ?_
    refine z_iconst eX12_asks_1 ?_
    refine z_rp (j := 17) lX12_264 eX12_asks_2 rfl hR rfl rfl ?_
    refine z_al0 eX12_asks_5 hR.ne ?_
    refine z_iconst eX12_asks_6 ?_
    refine z_rpz (j := 18) lX12_258 eX12_asks_7 rfl hR rfl rfl (by first | exact Or.inl rfl | exact Or.inr rfl | assumption | omega) ?_
    refine z_al0 eX12_asks_10 hR.ne ?_
    refine z_iconst eX12_asks_11 ?_
    refine z_rpz (j := 19) lX12_261 eX12_asks_12 rfl hR rfl rfl (by first | exact Or.inl rfl | exact Or.inr rfl | assumption | omega) ?_
    refine z_al0 eX12_asks_15 hR.ne ?_
    refine z_ra lX12_7 eX12_asks_16 rfl hR rfl ?_
    refine z_iconst eX12_asks_19 ?_
    refine z_rl eX12_asks_20 hR (by decide) rfl rfl ⟨by omega, by omega⟩ ?_
    rw [zset_10, zset_10, zset_10]
    refine z_iconst eX12_asks_21 ?_
    refine z_icmp_ge (tgt := 26) eX12_asks_22 rfl ⟨⟨by omega, by omega⟩, ⟨by omega, by omega⟩⟩ (fun h22 => (by exfalso; omega)) (fun h22 => ?_)
    refine z_return eX12_asks_25 rfl ?_
    refine zXv ⟨⟨fun j hj => ?_, fun o h0 h6 => ?_, ?_⟩, by simp [zset_at], by simp [zset_at], by simp [zset_at]⟩
    · unfold zNs at hj; rw [zset_f (by omega), zset_f (by omega), zset_f (by omega)]
    · rw [zset_o h0, zset_o h0, zset_o h0]
    · unfold zJs; rw [zset_o (by decide), zset_o (by decide), zset_o (by decide)]; exact ⟨hJ.1, by rw [zset_f (by decide), zset_f (by decide), zset_f (by decide)]; exact hJ.2.1, by rw [zset_f (by decide), zset_f (by decide), zset_f (by decide)]; exact hJ.2.2.1, Or.inl (by simp [zset_at]), Or.inl (by simp [zset_at])⟩
  · have hA : qAsk (σ 1) p s k h = (qLaw (fun i => σ 1 (426 + i)) (σ 1 2) (qAtom (fun i => σ 1 (426 + i)) (σ 1 2) (qFacts (σ 1) p s k h) (qHat (σ 1) p) (qMov (σ 1) p k) 6) (0, 0, 0) 0).2.1 := by unfold qAsk; rw [if_neg hl]
    rw [hA]
    generalize hQ : zX' none _ lay C0 nx x = Q
    have w200 : ∀ (S : zMem) (y : zAV), y.1 ≠ 1 → zS9 σ p s k h S → zW G KX12_asks 65 Q 200 [zP x, zI p, zI s, zI k, zI h, zI (σ 0 12), y] [] lay (rC x S C0) nx (0, 0) := by
      intro S y hy hS9
      subst hQ
      obtain ⟨a1, a2, a3, a4, a5, a6, a7, a8, a9, a10, a11, a12, a13⟩ := hS9
      have eT : rT S = fun i => σ 1 (426 + i) := by unfold rT; rw [a4, if_neg (by decide), a2 1 (by decide) (by decide)]
      have hF : zFact (S 6) := fun j j0 j1 => by rw [a3 j j0 j1]; exact qFacts_bd hM.1 hp hs hk hh j j0 j1
      have hL : LwH S := ⟨⟨Or.inr a4, by rw [a5]; exact h2.1, by rw [a5]; exact h2.2, fun i i0 i1 => by rw [eT]; exact hM.2 i i0 i1⟩, hF, by rw [a9]; exact qHat_01 _ _, by rw [a10]; exact qMov_01 _ _ _⟩
      have hrd := p_X12_readL (G := G) (nx := nx) (W := (0, 0, 0)) (a := 0) hR hS hL a8 ⟨Or.inl rfl, Or.inl rfl⟩ (by rw [a5]; exact ⟨Int.le_refl 0, h2.1⟩)
      have e1 : zLw S (0, 0, 0) = S := by
        have := zLw_0 (σ := S)
        rwa [a11, a12, a13] at this
      have e2 : pS S 0 (-1) = S := by
        have := pS_self (σ := S)
        rwa [a6, a7] at this
      unfold qA6 at hrd
      rw [e1, e2, eT, a5, a9, a10, qAtom_c (F := S 6) (F' := qFacts (σ 1) p s k h) a3] at hrd
      have h01 := qLaw_01 (T := fun i => σ 1 (426 + i)) (e := σ 1 2) (A := qAtom (fun i => σ 1 (426 + i)) (σ 1 2) (qFacts (σ 1) p s k h) (qHat (σ 1) p) (qMov (σ 1) p k) 6) (W := (0, 0, 0)) (a := 0) ⟨Or.inl rfl, Or.inl rfl⟩
      generalize qLaw (fun i => σ 1 (426 + i)) (σ 1 2) (qAtom (fun i => σ 1 (426 + i)) (σ 1 2) (qFacts (σ 1) p s k h) (qHat (σ 1) p) (qMov (σ 1) p k) 6) (0, 0, 0) 0 = r at hrd h01 ⊢
      refine z_al0 eX12_asks_200 hR.ne ?_
      refine z_iconst eX12_asks_201 ?_
      refine z_V1 eX12_asks_202 vX12_206 rfl rfl (Nat.le_of_ble_eq_true rfl) (Nat.le_of_ble_eq_true rfl) hR.x (hrd ) ?_
      refine z_is6 eX12_asks_205 (Nat.ne_of_beq_eq_false rfl) ?_
      refine z_al0 eX12_asks_207 hR.ne ?_
      refine z_il5 eX12_asks_208 ?_
      refine z_rp (j := 12) lX12_25 eX12_asks_210 rfl hR rfl rfl ?_
      refine z_return eX12_asks_213 rfl ?_
      refine zXv ⟨⟨fun j hj => ?_, fun o h0 h6 => ?_, ?_⟩, ?_, ?_, ?_⟩
      · by_cases j12 : j = 12
        · rw [j12, zset_eq]
        · unfold zNs at hj; rw [zset_f j12, pS_f (by omega) j12]; rcases hj with e | e | e | e | e | e <;> first | exact absurd e j12 | (subst e; first | (rw [zLw_f (by decide)]; exact a1 _ (by unfold zNs; decide) (by decide)) | (rw [zLw_at, if_neg (by decide), if_neg (by decide), if_neg (by decide)]; exact a1 _ (by unfold zNs; decide) (by decide)))
      · rw [zset_o h0, pS_o h0, zLw_o h0]; exact a2 o h0 h6
      · unfold zJs; rw [zset_o (by decide), pS_o (by decide), zLw_o (by decide)]; exact ⟨hF, by rw [zset_f (by decide), pS_f (by decide) (by decide), zLw_f (by decide), a9]; exact qHat_01 _ _, by rw [zset_f (by decide), pS_f (by decide) (by decide), zLw_f (by decide), a10]; exact qMov_01 _ _ _, by rw [zset_f (by decide), pS_f (by decide) (by decide)]; exact h01.1, by rw [zset_f (by decide), pS_f (by decide) (by decide)]; exact h01.2⟩
      · rw [zset_f (by decide), pS_f (by decide) (by decide)]; rfl
      · rw [zset_f (by decide), pS_f (by decide) (by decide)]; rfl
      · rw [zset_f (by decide), pS_f (by decide) (by decide)]; rfl
    by_cases hk1 : k = -1
    · have hm0 : qMov (σ 1) p k = 0 := by unfold qMov; rw [if_pos hk1]
      refine z_al0 eX12_asks_0 hR.ne ?_
      refine z_iconst eX12_asks_1 ?_
      refine z_rp (j := 17) lX12_264 eX12_asks_2 rfl hR rfl rfl ?_
      refine z_al0 eX12_asks_5 hR.ne ?_
      refine z_iconst eX12_asks_6 ?_
      refine z_rpz (j := 18) lX12_258 eX12_asks_7 rfl hR rfl rfl (by first | exact Or.inl rfl | exact Or.inr rfl | assumption | omega) ?_
      refine z_al0 eX12_asks_10 hR.ne ?_
      refine z_iconst eX12_asks_11 ?_
      refine z_rpz (j := 19) lX12_261 eX12_asks_12 rfl hR rfl rfl (by first | exact Or.inl rfl | exact Or.inr rfl | assumption | omega) ?_
      refine z_al0 eX12_asks_15 hR.ne ?_
      refine z_ra lX12_7 eX12_asks_16 rfl hR rfl ?_
      refine z_iconst eX12_asks_19 ?_
      refine z_rl eX12_asks_20 hR (by decide) rfl rfl ⟨by omega, by omega⟩ ?_
      simp only [zset_10, zset_16]
      refine z_iconst eX12_asks_21 ?_
      refine z_icmp_ge (tgt := 26) eX12_asks_22 rfl ⟨⟨by omega, by omega⟩, ⟨by omega, by omega⟩⟩ (fun h22 => ?_) (fun h22 => (by exfalso; omega))
      refine z_al0 eX12_asks_26 hR.ne ?_
      refine z_ra lX12_29 eX12_asks_27 rfl hR rfl ?_
      refine z_iconst eX12_asks_30 ?_
      refine z_il1 eX12_asks_31 ?_
      refine z_rs eX12_asks_32 hR (by decide) rfl rfl ⟨by omega, by omega⟩ ?_
      refine z_al0 eX12_asks_33 hR.ne ?_
      refine z_ra lX12_29 eX12_asks_34 rfl hR rfl ?_
      refine z_iconst eX12_asks_37 ?_
      refine z_al0 eX12_asks_38 hR.ne ?_
      refine z_ra lX12_7 eX12_asks_39 rfl hR rfl ?_
      refine z_bipush eX12_asks_42 (by decide) ?_
      refine z_al0 eX12_asks_44 hR.ne ?_
      refine z_il1 eX12_asks_45 ?_
      refine z_iconst eX12_asks_46 ?_
      refine z_V2 eX12_asks_47 vX12_62 rfl rfl (Nat.le_of_ble_eq_true rfl) (Nat.le_of_ble_eq_true rfl) hR.x (m_X12_of hR ⟨by omega, by omega⟩ (by decide)) ?_
      simp only [zset_10, zset_16]
      refine z_iadd eX12_asks_50 ?_
      refine z_rl eX12_asks_51 hR (by decide) rfl rfl ⟨by omega, by omega⟩ ?_
      simp only [zset_10, zset_16]
      refine z_rs eX12_asks_52 hR (by decide) rfl rfl ⟨by omega, by omega⟩ ?_
      refine z_al0 eX12_asks_53 hR.ne ?_
      refine z_ra lX12_29 eX12_asks_54 rfl hR rfl ?_
      refine z_iconst eX12_asks_57 ?_
      refine z_al0 eX12_asks_58 hR.ne ?_
      refine z_il1 eX12_asks_59 ?_
      refine z_iconst eX12_asks_60 ?_
      refine z_V2 eX12_asks_61 vX12_62 rfl rfl (Nat.le_of_ble_eq_true rfl) (Nat.le_of_ble_eq_true rfl) hR.x (m_X12_of hR ⟨by omega, by omega⟩ (by decide)) ?_
      simp only [zset_10, zset_16]
      refine z_rs eX12_asks_64 hR (by decide) rfl rfl ⟨by omega, by omega⟩ ?_
      refine z_al0 eX12_asks_65 hR.ne ?_
      refine z_ra lX12_29 eX12_asks_66 rfl hR rfl ?_
      refine z_iconst eX12_asks_69 ?_
      refine z_il2 eX12_asks_70 ?_
      refine z_rs eX12_asks_71 hR (by decide) rfl rfl ⟨by omega, by omega⟩ ?_
      refine z_al0 eX12_asks_72 hR.ne ?_
      refine z_ra lX12_29 eX12_asks_73 rfl hR rfl ?_
      refine z_iconst eX12_asks_76 ?_
      refine z_il4 eX12_asks_77 ?_
      refine z_rs eX12_asks_79 hR (by decide) rfl rfl ⟨by omega, by omega⟩ ?_
      refine z_al0 eX12_asks_80 hR.ne ?_
      refine z_ra lX12_29 eX12_asks_81 rfl hR rfl ?_
      refine z_iconst eX12_asks_84 ?_
      refine z_il3 eX12_asks_85 ?_
      refine z_iconst eX12_asks_86 ?_
      refine z_icmp_ne (tgt := 95) eX12_asks_87 rfl ⟨⟨by omega, by omega⟩, ⟨by omega, by omega⟩⟩ (fun h87 => (by exfalso; omega)) (fun h87 => ?_)
      refine z_bipush eX12_asks_90 (by decide) ?_
      refine z_goto eX12_asks_92 (tgt := 96) rfl ?_
      refine z_rs eX12_asks_96 hR (by decide) rfl rfl ⟨by omega, by omega⟩ ?_
      refine z_al0 eX12_asks_97 hR.ne ?_
      refine z_ra lX12_29 eX12_asks_98 rfl hR rfl ?_
      refine z_bipush eX12_asks_101 (by decide) ?_
      refine z_il3 eX12_asks_103 ?_
      refine z_iconst eX12_asks_104 ?_
      refine z_icmp_ne (tgt := 112) eX12_asks_105 rfl ⟨⟨by omega, by omega⟩, ⟨by omega, by omega⟩⟩ (fun h105 => (by exfalso; omega)) (fun h105 => ?_)
      refine z_iconst eX12_asks_108 ?_
      refine z_goto eX12_asks_109 (tgt := 118) rfl ?_
      refine z_rs eX12_asks_118 hR (by decide) rfl rfl ⟨by omega, by omega⟩ ?_
      refine z_al0 eX12_asks_119 hR.ne ?_
      refine z_al0 eX12_asks_120 hR.ne ?_
      refine z_il1 eX12_asks_121 ?_
      refine z_iconst eX12_asks_122 ?_
      refine z_V2 eX12_asks_123 vX12_62 rfl rfl (Nat.le_of_ble_eq_true rfl) (Nat.le_of_ble_eq_true rfl) hR.x (m_X12_of hR ⟨by omega, by omega⟩ (by decide)) ?_
      simp only [zset_10, zset_16]
      refine z_iconst eX12_asks_126 ?_
      refine z_icmp_ne (tgt := 134) eX12_asks_127 rfl ⟨⟨by omega, by omega⟩, ⟨by omega, by omega⟩⟩ (fun h127 => ?_) (fun h127 => ?_)
      · refine z_iconst eX12_asks_134 ?_
        refine z_rpz (j := 15) lX12_219 eX12_asks_135 rfl hR rfl rfl (by first | exact Or.inl rfl | exact Or.inr rfl | assumption | omega) ?_
        refine z_al0 eX12_asks_138 hR.ne ?_
        refine z_il3 eX12_asks_139 ?_
        refine z_iconst eX12_asks_140 ?_
        refine z_icmp_eq (tgt := 158) eX12_asks_141 rfl ⟨⟨by omega, by omega⟩, ⟨by omega, by omega⟩⟩ (fun h141 => ?_) (fun h141 => (by exfalso; omega))
        refine z_iconst eX12_asks_158 ?_
        refine z_rpz (j := 16) lX12_225 eX12_asks_159 rfl hR rfl rfl (by first | exact Or.inl rfl | exact Or.inr rfl | assumption | omega) ?_
        refine z_al0 eX12_asks_162 hR.ne ?_
        refine z_rg (j := 12) lX12_25 eX12_asks_163 rfl hR rfl rfl ?_
        rw [zset_fo (by decide), zset_fo (by decide), zset_oo (by decide), zset_oo (by decide), zset_oo (by decide), zset_oo (by decide), zset_oo (by decide), zset_oo (by decide), zset_oo (by decide), zset_fo (by decide), zset_fo (by decide), zset_fo (by decide)]
        refine z_is5 eX12_asks_166 (Nat.ne_of_beq_eq_false rfl) ?_
        refine z_al0 eX12_asks_168 hR.ne ?_
        refine z_iconst eX12_asks_169 ?_
        refine z_rp (j := 12) lX12_25 eX12_asks_170 rfl hR rfl rfl ?_
        refine z_al0 eX12_asks_173 hR.ne ?_
        refine z_sipush eX12_asks_174 (by decide) ?_
        refine z_rp (j := 9) lX12_68 eX12_asks_177 rfl hR rfl rfl ?_
        refine z_al0 eX12_asks_180 hR.ne ?_
        refine z_al0 eX12_asks_181 hR.ne ?_
        refine z_ra lX12_7 eX12_asks_182 rfl hR rfl ?_
        refine z_iconst eX12_asks_185 ?_
        refine z_rl eX12_asks_186 hR (by decide) rfl rfl ⟨by omega, by omega⟩ ?_
        simp only [zset_10, zset_16]
        refine z_rp (j := 10) lX12_74 eX12_asks_187 rfl hR rfl rfl ?_
        refine z_al0 eX12_asks_190 hR.ne ?_
        refine z_iconst eX12_asks_191 ?_
        refine z_rp (j := 11) lX12_71 eX12_asks_192 rfl hR rfl rfl ?_
        refine z_al0 eX12_asks_195 hR.ne ?_
        refine z_iconst eX12_asks_196 ?_
        refine z_rp (j := 13) lX12_187 eX12_asks_197 rfl hR rfl rfl ?_
        exact w200 _ _ (Nat.ne_of_beq_eq_false rfl) (zS9_mk rfl rfl (by rw [if_pos hk1]) (by rw [if_pos hk1]) (by unfold qHat; first | rw [if_pos h127] | rw [if_neg h127]) hm0.symm rfl)
      · refine z_iconst eX12_asks_130 ?_
        refine z_goto eX12_asks_131 (tgt := 135) rfl ?_
        refine z_rpz (j := 15) lX12_219 eX12_asks_135 rfl hR rfl rfl (by first | exact Or.inl rfl | exact Or.inr rfl | assumption | omega) ?_
        refine z_al0 eX12_asks_138 hR.ne ?_
        refine z_il3 eX12_asks_139 ?_
        refine z_iconst eX12_asks_140 ?_
        refine z_icmp_eq (tgt := 158) eX12_asks_141 rfl ⟨⟨by omega, by omega⟩, ⟨by omega, by omega⟩⟩ (fun h141 => ?_) (fun h141 => (by exfalso; omega))
        refine z_iconst eX12_asks_158 ?_
        refine z_rpz (j := 16) lX12_225 eX12_asks_159 rfl hR rfl rfl (by first | exact Or.inl rfl | exact Or.inr rfl | assumption | omega) ?_
        refine z_al0 eX12_asks_162 hR.ne ?_
        refine z_rg (j := 12) lX12_25 eX12_asks_163 rfl hR rfl rfl ?_
        rw [zset_fo (by decide), zset_fo (by decide), zset_oo (by decide), zset_oo (by decide), zset_oo (by decide), zset_oo (by decide), zset_oo (by decide), zset_oo (by decide), zset_oo (by decide), zset_fo (by decide), zset_fo (by decide), zset_fo (by decide)]
        refine z_is5 eX12_asks_166 (Nat.ne_of_beq_eq_false rfl) ?_
        refine z_al0 eX12_asks_168 hR.ne ?_
        refine z_iconst eX12_asks_169 ?_
        refine z_rp (j := 12) lX12_25 eX12_asks_170 rfl hR rfl rfl ?_
        refine z_al0 eX12_asks_173 hR.ne ?_
        refine z_sipush eX12_asks_174 (by decide) ?_
        refine z_rp (j := 9) lX12_68 eX12_asks_177 rfl hR rfl rfl ?_
        refine z_al0 eX12_asks_180 hR.ne ?_
        refine z_al0 eX12_asks_181 hR.ne ?_
        refine z_ra lX12_7 eX12_asks_182 rfl hR rfl ?_
        refine z_iconst eX12_asks_185 ?_
        refine z_rl eX12_asks_186 hR (by decide) rfl rfl ⟨by omega, by omega⟩ ?_
        simp only [zset_10, zset_16]
        refine z_rp (j := 10) lX12_74 eX12_asks_187 rfl hR rfl rfl ?_
        refine z_al0 eX12_asks_190 hR.ne ?_
        refine z_iconst eX12_asks_191 ?_
        refine z_rp (j := 11) lX12_71 eX12_asks_192 rfl hR rfl rfl ?_
        refine z_al0 eX12_asks_195 hR.ne ?_
        refine z_iconst eX12_asks_196 ?_
        refine z_rp (j := 13) lX12_187 eX12_asks_197 rfl hR rfl rfl ?_
        exact w200 _ _ (Nat.ne_of_beq_eq_false rfl) (zS9_mk rfl rfl (by rw [if_pos hk1]) (by rw [if_pos hk1]) (by unfold qHat; first | rw [if_pos h127] | rw [if_neg h127]) hm0.symm rfl)
    · have hv := hV hk1
      refine z_al0 eX12_asks_0 hR.ne ?_
      refine z_iconst eX12_asks_1 ?_
      refine z_rp (j := 17) lX12_264 eX12_asks_2 rfl hR rfl rfl ?_
      refine z_al0 eX12_asks_5 hR.ne ?_
      refine z_iconst eX12_asks_6 ?_
      refine z_rpz (j := 18) lX12_258 eX12_asks_7 rfl hR rfl rfl (by first | exact Or.inl rfl | exact Or.inr rfl | assumption | omega) ?_
      refine z_al0 eX12_asks_10 hR.ne ?_
      refine z_iconst eX12_asks_11 ?_
      refine z_rpz (j := 19) lX12_261 eX12_asks_12 rfl hR rfl rfl (by first | exact Or.inl rfl | exact Or.inr rfl | assumption | omega) ?_
      refine z_al0 eX12_asks_15 hR.ne ?_
      refine z_ra lX12_7 eX12_asks_16 rfl hR rfl ?_
      refine z_iconst eX12_asks_19 ?_
      refine z_rl eX12_asks_20 hR (by decide) rfl rfl ⟨by omega, by omega⟩ ?_
      simp only [zset_10, zset_16]
      refine z_iconst eX12_asks_21 ?_
      refine z_icmp_ge (tgt := 26) eX12_asks_22 rfl ⟨⟨by omega, by omega⟩, ⟨by omega, by omega⟩⟩ (fun h22 => ?_) (fun h22 => (by exfalso; omega))
      refine z_al0 eX12_asks_26 hR.ne ?_
      refine z_ra lX12_29 eX12_asks_27 rfl hR rfl ?_
      refine z_iconst eX12_asks_30 ?_
      refine z_il1 eX12_asks_31 ?_
      refine z_rs eX12_asks_32 hR (by decide) rfl rfl ⟨by omega, by omega⟩ ?_
      refine z_al0 eX12_asks_33 hR.ne ?_
      refine z_ra lX12_29 eX12_asks_34 rfl hR rfl ?_
      refine z_iconst eX12_asks_37 ?_
      refine z_al0 eX12_asks_38 hR.ne ?_
      refine z_ra lX12_7 eX12_asks_39 rfl hR rfl ?_
      refine z_bipush eX12_asks_42 (by decide) ?_
      refine z_al0 eX12_asks_44 hR.ne ?_
      refine z_il1 eX12_asks_45 ?_
      refine z_iconst eX12_asks_46 ?_
      refine z_V2 eX12_asks_47 vX12_62 rfl rfl (Nat.le_of_ble_eq_true rfl) (Nat.le_of_ble_eq_true rfl) hR.x (m_X12_of hR ⟨by omega, by omega⟩ (by decide)) ?_
      simp only [zset_10, zset_16]
      refine z_iadd eX12_asks_50 ?_
      refine z_rl eX12_asks_51 hR (by decide) rfl rfl ⟨by omega, by omega⟩ ?_
      simp only [zset_10, zset_16]
      refine z_rs eX12_asks_52 hR (by decide) rfl rfl ⟨by omega, by omega⟩ ?_
      refine z_al0 eX12_asks_53 hR.ne ?_
      refine z_ra lX12_29 eX12_asks_54 rfl hR rfl ?_
      refine z_iconst eX12_asks_57 ?_
      refine z_al0 eX12_asks_58 hR.ne ?_
      refine z_il1 eX12_asks_59 ?_
      refine z_iconst eX12_asks_60 ?_
      refine z_V2 eX12_asks_61 vX12_62 rfl rfl (Nat.le_of_ble_eq_true rfl) (Nat.le_of_ble_eq_true rfl) hR.x (m_X12_of hR ⟨by omega, by omega⟩ (by decide)) ?_
      simp only [zset_10, zset_16]
      refine z_rs eX12_asks_64 hR (by decide) rfl rfl ⟨by omega, by omega⟩ ?_
      refine z_al0 eX12_asks_65 hR.ne ?_
      refine z_ra lX12_29 eX12_asks_66 rfl hR rfl ?_
      refine z_iconst eX12_asks_69 ?_
      refine z_il2 eX12_asks_70 ?_
      refine z_rs eX12_asks_71 hR (by decide) rfl rfl ⟨by omega, by omega⟩ ?_
      refine z_al0 eX12_asks_72 hR.ne ?_
      refine z_ra lX12_29 eX12_asks_73 rfl hR rfl ?_
      refine z_iconst eX12_asks_76 ?_
      refine z_il4 eX12_asks_77 ?_
      refine z_rs eX12_asks_79 hR (by decide) rfl rfl ⟨by omega, by omega⟩ ?_
      refine z_al0 eX12_asks_80 hR.ne ?_
      refine z_ra lX12_29 eX12_asks_81 rfl hR rfl ?_
      refine z_iconst eX12_asks_84 ?_
      refine z_il3 eX12_asks_85 ?_
      refine z_iconst eX12_asks_86 ?_
      refine z_icmp_ne (tgt := 95) eX12_asks_87 rfl ⟨⟨by omega, by omega⟩, ⟨by omega, by omega⟩⟩ (fun h87 => ?_) (fun h87 => (by exfalso; omega))
      refine z_il3 eX12_asks_95 ?_
      refine z_rs eX12_asks_96 hR (by decide) rfl rfl ⟨by omega, by omega⟩ ?_
      refine z_al0 eX12_asks_97 hR.ne ?_
      refine z_ra lX12_29 eX12_asks_98 rfl hR rfl ?_
      refine z_bipush eX12_asks_101 (by decide) ?_
      refine z_il3 eX12_asks_103 ?_
      refine z_iconst eX12_asks_104 ?_
      refine z_icmp_ne (tgt := 112) eX12_asks_105 rfl ⟨⟨by omega, by omega⟩, ⟨by omega, by omega⟩⟩ (fun h105 => ?_) (fun h105 => (by exfalso; omega))
      refine z_al0 eX12_asks_112 hR.ne ?_
      refine z_il3 eX12_asks_113 ?_
      refine z_iconst eX12_asks_114 ?_
      refine z_V2 eX12_asks_115 vX12_55 rfl rfl (Nat.le_of_ble_eq_true rfl) (Nat.le_of_ble_eq_true rfl) hR.x (m_X12_ofMotion hR ⟨by omega, by omega⟩ (by decide)) ?_
      simp only [zset_10, zset_16]
      refine z_rs eX12_asks_118 hR (by decide) rfl rfl ⟨by omega, by omega⟩ ?_
      refine z_al0 eX12_asks_119 hR.ne ?_
      refine z_al0 eX12_asks_120 hR.ne ?_
      refine z_il1 eX12_asks_121 ?_
      refine z_iconst eX12_asks_122 ?_
      refine z_V2 eX12_asks_123 vX12_62 rfl rfl (Nat.le_of_ble_eq_true rfl) (Nat.le_of_ble_eq_true rfl) hR.x (m_X12_of hR ⟨by omega, by omega⟩ (by decide)) ?_
      simp only [zset_10, zset_16]
      refine z_iconst eX12_asks_126 ?_
      refine z_icmp_ne (tgt := 134) eX12_asks_127 rfl ⟨⟨by omega, by omega⟩, ⟨by omega, by omega⟩⟩ (fun h127 => ?_) (fun h127 => ?_)
      · refine z_iconst eX12_asks_134 ?_
        refine z_rpz (j := 15) lX12_219 eX12_asks_135 rfl hR rfl rfl (by first | exact Or.inl rfl | exact Or.inr rfl | assumption | omega) ?_
        refine z_al0 eX12_asks_138 hR.ne ?_
        refine z_il3 eX12_asks_139 ?_
        refine z_iconst eX12_asks_140 ?_
        refine z_icmp_eq (tgt := 158) eX12_asks_141 rfl ⟨⟨by omega, by omega⟩, ⟨by omega, by omega⟩⟩ (fun h141 => (by exfalso; omega)) (fun h141 => ?_)
        refine z_al0 eX12_asks_144 hR.ne ?_
        refine z_il3 eX12_asks_145 ?_
        refine z_iconst eX12_asks_146 ?_
        refine z_V2 eX12_asks_147 vX12_55 rfl rfl (Nat.le_of_ble_eq_true rfl) (Nat.le_of_ble_eq_true rfl) hR.x (m_X12_ofMotion hR ⟨by omega, by omega⟩ (by decide)) ?_
        simp only [zset_10, zset_16]
        refine z_il1 eX12_asks_150 ?_
        refine z_icmp_ne (tgt := 158) eX12_asks_151 rfl ⟨⟨by omega, by omega⟩, ⟨by omega, by omega⟩⟩ (fun h151 => ?_) (fun h151 => ?_)
        · refine z_iconst eX12_asks_158 ?_
          refine z_rpz (j := 16) lX12_225 eX12_asks_159 rfl hR rfl rfl (by first | exact Or.inl rfl | exact Or.inr rfl | assumption | omega) ?_
          refine z_al0 eX12_asks_162 hR.ne ?_
          refine z_rg (j := 12) lX12_25 eX12_asks_163 rfl hR rfl rfl ?_
          rw [zset_fo (by decide), zset_fo (by decide), zset_oo (by decide), zset_oo (by decide), zset_oo (by decide), zset_oo (by decide), zset_oo (by decide), zset_oo (by decide), zset_oo (by decide), zset_fo (by decide), zset_fo (by decide), zset_fo (by decide)]
          refine z_is5 eX12_asks_166 (Nat.ne_of_beq_eq_false rfl) ?_
          refine z_al0 eX12_asks_168 hR.ne ?_
          refine z_iconst eX12_asks_169 ?_
          refine z_rp (j := 12) lX12_25 eX12_asks_170 rfl hR rfl rfl ?_
          refine z_al0 eX12_asks_173 hR.ne ?_
          refine z_sipush eX12_asks_174 (by decide) ?_
          refine z_rp (j := 9) lX12_68 eX12_asks_177 rfl hR rfl rfl ?_
          refine z_al0 eX12_asks_180 hR.ne ?_
          refine z_al0 eX12_asks_181 hR.ne ?_
          refine z_ra lX12_7 eX12_asks_182 rfl hR rfl ?_
          refine z_iconst eX12_asks_185 ?_
          refine z_rl eX12_asks_186 hR (by decide) rfl rfl ⟨by omega, by omega⟩ ?_
          simp only [zset_10, zset_16]
          refine z_rp (j := 10) lX12_74 eX12_asks_187 rfl hR rfl rfl ?_
          refine z_al0 eX12_asks_190 hR.ne ?_
          refine z_iconst eX12_asks_191 ?_
          refine z_rp (j := 11) lX12_71 eX12_asks_192 rfl hR rfl rfl ?_
          refine z_al0 eX12_asks_195 hR.ne ?_
          refine z_iconst eX12_asks_196 ?_
          refine z_rp (j := 13) lX12_187 eX12_asks_197 rfl hR rfl rfl ?_
          exact w200 _ _ (Nat.ne_of_beq_eq_false rfl) (zS9_mk rfl rfl (by rw [if_neg hk1]) (by rw [if_neg hk1]) (by unfold qHat; first | rw [if_pos h127] | rw [if_neg h127]) (by unfold qMov; rw [if_neg hk1]; first | rw [if_pos h151] | rw [if_neg h151]) rfl)
        · refine z_iconst eX12_asks_154 ?_
          refine z_goto eX12_asks_155 (tgt := 159) rfl ?_
          refine z_rpz (j := 16) lX12_225 eX12_asks_159 rfl hR rfl rfl (by first | exact Or.inl rfl | exact Or.inr rfl | assumption | omega) ?_
          refine z_al0 eX12_asks_162 hR.ne ?_
          refine z_rg (j := 12) lX12_25 eX12_asks_163 rfl hR rfl rfl ?_
          rw [zset_fo (by decide), zset_fo (by decide), zset_oo (by decide), zset_oo (by decide), zset_oo (by decide), zset_oo (by decide), zset_oo (by decide), zset_oo (by decide), zset_oo (by decide), zset_fo (by decide), zset_fo (by decide), zset_fo (by decide)]
          refine z_is5 eX12_asks_166 (Nat.ne_of_beq_eq_false rfl) ?_
          refine z_al0 eX12_asks_168 hR.ne ?_
          refine z_iconst eX12_asks_169 ?_
          refine z_rp (j := 12) lX12_25 eX12_asks_170 rfl hR rfl rfl ?_
          refine z_al0 eX12_asks_173 hR.ne ?_
          refine z_sipush eX12_asks_174 (by decide) ?_
          refine z_rp (j := 9) lX12_68 eX12_asks_177 rfl hR rfl rfl ?_
          refine z_al0 eX12_asks_180 hR.ne ?_
          refine z_al0 eX12_asks_181 hR.ne ?_
          refine z_ra lX12_7 eX12_asks_182 rfl hR rfl ?_
          refine z_iconst eX12_asks_185 ?_
          refine z_rl eX12_asks_186 hR (by decide) rfl rfl ⟨by omega, by omega⟩ ?_
          simp only [zset_10, zset_16]
          refine z_rp (j := 10) lX12_74 eX12_asks_187 rfl hR rfl rfl ?_
          refine z_al0 eX12_asks_190 hR.ne ?_
          refine z_iconst eX12_asks_191 ?_
          refine z_rp (j := 11) lX12_71 eX12_asks_192 rfl hR rfl rfl ?_
          refine z_al0 eX12_asks_195 hR.ne ?_
          refine z_iconst eX12_asks_196 ?_
          refine z_rp (j := 13) lX12_187 eX12_asks_197 rfl hR rfl rfl ?_
          exact w200 _ _ (Nat.ne_of_beq_eq_false rfl) (zS9_mk rfl rfl (by rw [if_neg hk1]) (by rw [if_neg hk1]) (by unfold qHat; first | rw [if_pos h127] | rw [if_neg h127]) (by unfold qMov; rw [if_neg hk1]; first | rw [if_pos h151] | rw [if_neg h151]) rfl)
      · refine z_iconst eX12_asks_130 ?_
        refine z_goto eX12_asks_131 (tgt := 135) rfl ?_
        refine z_rpz (j := 15) lX12_219 eX12_asks_135 rfl hR rfl rfl (by first | exact Or.inl rfl | exact Or.inr rfl | assumption | omega) ?_
        refine z_al0 eX12_asks_138 hR.ne ?_
        refine z_il3 eX12_asks_139 ?_
        refine z_iconst eX12_asks_140 ?_
        refine z_icmp_eq (tgt := 158) eX12_asks_141 rfl ⟨⟨by omega, by omega⟩, ⟨by omega, by omega⟩⟩ (fun h141 => (by exfalso; omega)) (fun h141 => ?_)
        refine z_al0 eX12_asks_144 hR.ne ?_
        refine z_il3 eX12_asks_145 ?_
        refine z_iconst eX12_asks_146 ?_
        refine z_V2 eX12_asks_147 vX12_55 rfl rfl (Nat.le_of_ble_eq_true rfl) (Nat.le_of_ble_eq_true rfl) hR.x (m_X12_ofMotion hR ⟨by omega, by omega⟩ (by decide)) ?_
        simp only [zset_10, zset_16]
        refine z_il1 eX12_asks_150 ?_
        refine z_icmp_ne (tgt := 158) eX12_asks_151 rfl ⟨⟨by omega, by omega⟩, ⟨by omega, by omega⟩⟩ (fun h151 => ?_) (fun h151 => ?_)
        · refine z_iconst eX12_asks_158 ?_
          refine z_rpz (j := 16) lX12_225 eX12_asks_159 rfl hR rfl rfl (by first | exact Or.inl rfl | exact Or.inr rfl | assumption | omega) ?_
          refine z_al0 eX12_asks_162 hR.ne ?_
          refine z_rg (j := 12) lX12_25 eX12_asks_163 rfl hR rfl rfl ?_
          rw [zset_fo (by decide), zset_fo (by decide), zset_oo (by decide), zset_oo (by decide), zset_oo (by decide), zset_oo (by decide), zset_oo (by decide), zset_oo (by decide), zset_oo (by decide), zset_fo (by decide), zset_fo (by decide), zset_fo (by decide)]
          refine z_is5 eX12_asks_166 (Nat.ne_of_beq_eq_false rfl) ?_
          refine z_al0 eX12_asks_168 hR.ne ?_
          refine z_iconst eX12_asks_169 ?_
          refine z_rp (j := 12) lX12_25 eX12_asks_170 rfl hR rfl rfl ?_
          refine z_al0 eX12_asks_173 hR.ne ?_
          refine z_sipush eX12_asks_174 (by decide) ?_
          refine z_rp (j := 9) lX12_68 eX12_asks_177 rfl hR rfl rfl ?_
          refine z_al0 eX12_asks_180 hR.ne ?_
          refine z_al0 eX12_asks_181 hR.ne ?_
          refine z_ra lX12_7 eX12_asks_182 rfl hR rfl ?_
          refine z_iconst eX12_asks_185 ?_
          refine z_rl eX12_asks_186 hR (by decide) rfl rfl ⟨by omega, by omega⟩ ?_
          simp only [zset_10, zset_16]
          refine z_rp (j := 10) lX12_74 eX12_asks_187 rfl hR rfl rfl ?_
          refine z_al0 eX12_asks_190 hR.ne ?_
          refine z_iconst eX12_asks_191 ?_
          refine z_rp (j := 11) lX12_71 eX12_asks_192 rfl hR rfl rfl ?_
          refine z_al0 eX12_asks_195 hR.ne ?_
          refine z_iconst eX12_asks_196 ?_
          refine z_rp (j := 13) lX12_187 eX12_asks_197 rfl hR rfl rfl ?_
          exact w200 _ _ (Nat.ne_of_beq_eq_false rfl) (zS9_mk rfl rfl (by rw [if_neg hk1]) (by rw [if_neg hk1]) (by unfold qHat; first | rw [if_pos h127] | rw [if_neg h127]) (by unfold qMov; rw [if_neg hk1]; first | rw [if_pos h151] | rw [if_neg h151]) rfl)
        · refine z_iconst eX12_asks_154 ?_
          refine z_goto eX12_asks_155 (tgt := 159) rfl ?_
          refine z_rpz (j := 16) lX12_225 eX12_asks_159 rfl hR rfl rfl (by first | exact Or.inl rfl | exact Or.inr rfl | assumption | omega) ?_
          refine z_al0 eX12_asks_162 hR.ne ?_
          refine z_rg (j := 12) lX12_25 eX12_asks_163 rfl hR rfl rfl ?_
          rw [zset_fo (by decide), zset_fo (by decide), zset_oo (by decide), zset_oo (by decide), zset_oo (by decide), zset_oo (by decide), zset_oo (by decide), zset_oo (by decide), zset_oo (by decide), zset_fo (by decide), zset_fo (by decide), zset_fo (by decide)]
          refine z_is5 eX12_asks_166 (Nat.ne_of_beq_eq_false rfl) ?_
          refine z_al0 eX12_asks_168 hR.ne ?_
          refine z_iconst eX12_asks_169 ?_
          refine z_rp (j := 12) lX12_25 eX12_asks_170 rfl hR rfl rfl ?_
          refine z_al0 eX12_asks_173 hR.ne ?_
          refine z_sipush eX12_asks_174 (by decide) ?_
          refine z_rp (j := 9) lX12_68 eX12_asks_177 rfl hR rfl rfl ?_
          refine z_al0 eX12_asks_180 hR.ne ?_
          refine z_al0 eX12_asks_181 hR.ne ?_
          refine z_ra lX12_7 eX12_asks_182 rfl hR rfl ?_
          refine z_iconst eX12_asks_185 ?_
          refine z_rl eX12_asks_186 hR (by decide) rfl rfl ⟨by omega, by omega⟩ ?_
          simp only [zset_10, zset_16]
          refine z_rp (j := 10) lX12_74 eX12_asks_187 rfl hR rfl rfl ?_
          refine z_al0 eX12_asks_190 hR.ne ?_
          refine z_iconst eX12_asks_191 ?_
          refine z_rp (j := 11) lX12_71 eX12_asks_192 rfl hR rfl rfl ?_
          refine z_al0 eX12_asks_195 hR.ne ?_
          refine z_iconst eX12_asks_196 ?_
          refine z_rp (j := 13) lX12_187 eX12_asks_197 rfl hR rfl rfl ?_
          exact w200 _ _ (Nat.ne_of_beq_eq_false rfl) (zS9_mk rfl rfl (by rw [if_neg hk1]) (by rw [if_neg hk1]) (by unfold qHat; first | rw [if_pos h127] | rw [if_neg h127]) (by unfold qMov; rw [if_neg hk1]; first | rw [if_pos h151] | rw [if_neg h151]) rfl)
