/-! Words and numbers of a text, as the reference reads them. -/
section ZTR
variable {G : zG} {k : zK} {D : Nat} {Q : zQ} {pc pc' idx : Nat} {L st : List zAV} {lay : zLay} {C : zMem} {nx : Int} {b : Nat × Nat} {own : String}
theorem z_txl {t : Nat} {n : Int} (hd : zD k pc (.invokevirtual idx) 3 pc') (hl9 : zMl own idx KJ0_length_8abf5) (hw : own = k.1.cls) (hk : k.2.2.2.2 = []) (hD : 3 ≤ D) (hst : st.length ≤ 4) (ho : lay (-10 - (t : Int)) = (104, n)) (hb : lay (-1000 - (t : Int)) = (105, n)) (hn : 0 ≤ n ∧ n < 64) (w : zW G k D Q pc' L (zI n :: st) lay C nx b) : zW G k D Q pc L (zP (-10 - (t : Int)) :: st) lay C nx b := by
  subst hw
  have h9 := z_callT (G := G) (k := k) (D := D) (Q := Q) (lay := lay) (C := C) (nx := nx) (av := []) (L := L) (st := st) (b' := (0, 0)) (b'' := b) (n := 0) hd hk gJ0_length_8abf5 rfl hl9 (m_length ho hb hn) (by omega) ho rfl rfl hst
    (fun r l c m q => by
      obtain ⟨q1, q2, q3, q4⟩ := q
      have q5 := Sum.inl.inj q1
      subst q5; subst q2; subst q3; subst q4
      exact w) (fun E l c m q => absurd q (zR_no E l c m))
  rw [Nat.zero_add, Nat.zero_add] at h9
  exact h9
theorem z_chr {t : Nat} {n i : Int} (hd : zD k pc (.invokevirtual idx) 3 pc') (hl9 : zMl own idx KJ0_charAt_5068e) (hw : own = k.1.cls) (hk : k.2.2.2.2 = []) (hD : 5 ≤ D) (hst : st.length ≤ 4) (ho : lay (-10 - (t : Int)) = (104, n)) (hb : lay (-1000 - (t : Int)) = (105, n)) (hn : n < 64) (hi : 0 ≤ i ∧ i < n) (hc : 0 ≤ C (-1000 - (t : Int)) i ∧ C (-1000 - (t : Int)) i < 128) (w : zW G k D Q pc' L (zI (C (-1000 - (t : Int)) i) :: st) lay C nx b) : zW G k D Q pc L (zI i :: zP (-10 - (t : Int)) :: st) lay C nx b := by
  subst hw
  have h9 := z_callT (G := G) (k := k) (D := D) (Q := Q) (lay := lay) (C := C) (nx := nx) (av := [zI i]) (L := L) (st := st) (b' := (0, 0)) (b'' := b) (n := 1) hd hk gJ0_charAt_5068e rfl hl9 (m_charAt ho hb (by omega) hi hc) (by omega) ho rfl rfl hst
    (fun r l c m q => by
      obtain ⟨q1, q2, q3, q4⟩ := q
      have q5 := Sum.inl.inj q1
      subst q5; subst q2; subst q3; subst q4
      exact w) (fun E l c m q => absurd q (zR_no E l c m))
  rw [Nat.zero_add, Nat.zero_add] at h9
  exact h9
end ZTR
/-- the texts lie in their cells -/
def TxS (lay : zLay) (C0 : zMem) : Prop := ∀ (t : Nat) (q : String × Nat × String × List Int), zStr[t]? = some q → lay (-10 - (t : Int)) = (104, (q.2.2.2.length : Int)) ∧ lay (-1000 - (t : Int)) = (105, (q.2.2.2.length : Int)) ∧ ∀ i : Nat, i < q.2.2.2.length → C0 (-1000 - (t : Int)) i = q.2.2.2.getD i 0
theorem zStr_ok : ∀ q ∈ zStr, q.2.2.2.length < 64 ∧ ∀ c ∈ q.2.2.2, 0 ≤ c ∧ c < 128 := by decide +kernel
theorem zStr_c {t : Nat} {q : String × Nat × String × List Int} (h : zStr[t]? = some q) (i : Nat) (hi : i < q.2.2.2.length) : 0 ≤ q.2.2.2.getD i 0 ∧ q.2.2.2.getD i 0 < 128 := by
  refine (zStr_ok q (List.mem_of_getElem? h)).2 _ ?_
  rw [List.getD_eq_getElem?_getD, List.getElem?_eq_getElem hi]
  exact List.getElem_mem hi
/-- the word w stands at a: letters as long as it, and its own -/
def qhas (T : Int → Int) (e a : Int) (w : List Int) : Prop := qscan qlet T e a = a + w.length ∧ ∀ i : Nat, i < w.length → T (a + i) = w.getD i 0
theorem m_X12_isSign {G : zG} {lay : zLay} {σ C0 : zMem} {nx x : Int} {c : Int} (hR : RefL lay x) (hT : TxI σ) (ha : 0 ≤ σ 0 11 ∧ σ 0 11 ≤ σ 0 10) (hc : zin c) : zMM G 3 KX12_isSign [zP x, zI c] lay (rC x σ C0) nx (0, 0) (zR (some (zI (zbi (qscan qbl (rT σ) (σ 0 10) (σ 0 11) < σ 0 10 ∧ rT σ (qscan qbl (rT σ) (σ 0 10) (σ 0 11)) = c)))) lay (rC x (zset σ 0 11 (qscan qbl (rT σ) (σ 0 10) (σ 0 11))) C0) nx) := by
  refine z_met' (L := [zP x, zI c]) gX12_isSign.1 rfl rfl (Nat.le_of_ble_eq_true rfl) rfl ?_
  have hbd := qscan_bd (P := qbl) (T := rT σ) (e := σ 0 10) (k := σ 0 11)
  generalize ha' : qscan qbl (rT σ) (σ 0 10) (σ 0 11) = a at hbd ⊢
  have h10 : σ 0 10 ≤ 400 := hT.2.2.1
  have e1 : zset σ 0 11 a 0 11 = a := by simp [zset_at]
  have e2 : zset σ 0 11 a 0 10 = σ 0 10 := by simp [zset_at]
  have hT2 := zAt_T (a := a) hT
  refine z_al0 eX12_isSign_0 hR.ne ?_
  refine z_V0v eX12_isSign_1 vX12_81 rfl rfl (Nat.le_of_ble_eq_true rfl) (Nat.le_of_ble_eq_true rfl) hR.x (m_X12_skip hR hT ⟨by omega, by omega⟩) ?_
  rw [ha']
  refine z_al0 eX12_isSign_4 hR.ne ?_
  refine z_rg (j := 11) lX12_71 eX12_isSign_5 rfl hR rfl rfl ?_
  refine z_al0 eX12_isSign_8 hR.ne ?_
  refine z_rg (j := 10) lX12_74 eX12_isSign_9 rfl hR rfl rfl ?_
  refine z_icmp_ge (tgt := 31) eX12_isSign_12 rfl ⟨⟨by omega, by omega⟩, ⟨by omega, by omega⟩⟩ (fun h12 => ?_) (fun h12 => ?_)
  · refine z_iconst eX12_isSign_31 ?_
    refine z_zreturn eX12_isSign_32 rfl (by first | exact Or.inl rfl | exact Or.inr rfl | exact zbi_01 _ | assumption | omega) ?_
    first | exact zRb1 ⟨by omega, by assumption⟩ | exact zRb0 (fun q => absurd q.1 (by omega)) | exact zRb0 (fun q => absurd q.2 (by assumption))
  · refine z_al0 eX12_isSign_15 hR.ne ?_
    refine z_al0 eX12_isSign_16 hR.ne ?_
    refine z_rg (j := 11) lX12_71 eX12_isSign_17 rfl hR rfl rfl ?_
    refine z_V1 eX12_isSign_20 vX12_77 rfl rfl (Nat.le_of_ble_eq_true rfl) (Nat.le_of_ble_eq_true rfl) hR.x (m_X12_letter hR hT2.1 ⟨by omega, by omega⟩) ?_
    rw [hT2.2, e1]
    have hb := hT.2.2.2 a (by omega) (by omega)
    refine z_il1 eX12_isSign_23 ?_
    refine z_icmp_ne (tgt := 31) eX12_isSign_24 rfl ⟨⟨by omega, by omega⟩, ⟨by omega, by omega⟩⟩ (fun h24 => ?_) (fun h24 => ?_)
    · refine z_iconst eX12_isSign_31 ?_
      refine z_zreturn eX12_isSign_32 rfl (by first | exact Or.inl rfl | exact Or.inr rfl | exact zbi_01 _ | assumption | omega) ?_
      first | exact zRb1 ⟨by omega, by assumption⟩ | exact zRb0 (fun q => absurd q.1 (by omega)) | exact zRb0 (fun q => absurd q.2 (by assumption))
    · refine z_iconst eX12_isSign_27 ?_
      refine z_goto eX12_isSign_28 (tgt := 32) rfl ?_
      refine z_zreturn eX12_isSign_32 rfl (by first | exact Or.inl rfl | exact Or.inr rfl | exact zbi_01 _ | assumption | omega) ?_
      first | exact zRb1 ⟨by omega, by assumption⟩ | exact zRb0 (fun q => absurd q.1 (by omega)) | exact zRb0 (fun q => absurd q.2 (by assumption))
theorem m_X12_here {G : zG} {lay : zLay} {σ C0 : zMem} {nx x : Int} (hR : RefL lay x) (hT : TxI σ) (ha : 0 ≤ σ 0 11 ∧ σ 0 11 ≤ σ 0 10) : zMM G 3 KX12_here [zP x] lay (rC x σ C0) nx (0, 0) (zR (some (zI (qscan qbl (rT σ) (σ 0 10) (σ 0 11)))) lay (rC x (zset σ 0 11 (qscan qbl (rT σ) (σ 0 10) (σ 0 11))) C0) nx) := by
  refine z_met' (L := [zP x]) gX12_here.1 rfl rfl (Nat.le_of_ble_eq_true rfl) rfl ?_
  refine z_al0 eX12_here_0 hR.ne ?_
  refine z_V0v eX12_here_1 vX12_81 rfl rfl (Nat.le_of_ble_eq_true rfl) (Nat.le_of_ble_eq_true rfl) hR.x (m_X12_skip hR hT ⟨by omega, by omega⟩) ?_
  refine z_al0 eX12_here_4 hR.ne ?_
  refine z_rg (j := 11) lX12_71 eX12_here_5 rfl hR rfl rfl ?_
  refine z_ireturn eX12_here_8 rfl ?_
  exact zRe (by simp [zset_at])
theorem m_X12_has {G : zG} {lay : zLay} {σ C0 : zMem} {nx x : Int} {t : Nat} {q : String × Nat × String × List Int} (hR : RefL lay x) (hS : TxS lay C0) (hq : zStr[t]? = some q) (hT : TxI σ) (ha : 0 ≤ σ 0 11 ∧ σ 0 11 ≤ σ 0 10) : zMM G 6 KX12_has [zP x, zP (-10 - (t : Int))] lay (rC x σ C0) nx (0, 0) (zR (some (zI (zbi (qhas (rT σ) (σ 0 10) (qscan qbl (rT σ) (σ 0 10) (σ 0 11)) q.2.2.2)))) lay (rC x (zset σ 0 11 (qscan qbl (rT σ) (σ 0 10) (σ 0 11) + q.2.2.2.length * zbi (qhas (rT σ) (σ 0 10) (qscan qbl (rT σ) (σ 0 10) (σ 0 11)) q.2.2.2))) C0) nx) := by
  have hbd := qscan_bd (P := qbl) (T := rT σ) (e := σ 0 10) (k := σ 0 11)
  generalize ha' : qscan qbl (rT σ) (σ 0 10) (σ 0 11) = a at hbd ⊢
  have h10 : σ 0 10 ≤ 400 := hT.2.2.1
  have e1 : zset σ 0 11 a 0 11 = a := by simp [zset_at]
  have e2 : zset σ 0 11 a 0 10 = σ 0 10 := by simp [zset_at]
  have hT2 := zAt_T (a := a) hT
  obtain ⟨hS1, hS2, hS3⟩ := hS t q hq
  have hlen := (zStr_ok q (List.mem_of_getElem? hq)).1
  have hx0 := hR.1
  generalize hn : (q.2.2.2.length : Int) = n at hS1 hS2 ⊢
  have hn2 : 0 ≤ n ∧ n < 64 := by omega
  have hC : ∀ i : Int, 0 ≤ i → i < n → rC x (zset σ 0 11 a) C0 (-1000 - (t : Int)) i = q.2.2.2.getD i.toNat 0 ∧ 0 ≤ q.2.2.2.getD i.toNat 0 ∧ q.2.2.2.getD i.toNat 0 < 128 := by
    intro i h0 h1
    have e9 := hS3 i.toNat (by omega)
    rw [Int.toNat_of_nonneg h0] at e9
    exact ⟨(rM_out (by omega)).trans e9, zStr_c hq i.toNat (by omega)⟩
  have hw : ∀ i : Int, 0 ≤ i → i ≤ n → qscan qlet (rT σ) (σ 0 10) a = a + n → (∀ j : Nat, (j : Int) < i → rT σ (a + j) = q.2.2.2.getD j 0) → zW G KX12_has 6 (zR (some (zI (zbi (qhas (rT σ) (σ 0 10) a q.2.2.2)))) lay (rC x (zset σ 0 11 (a + n * zbi (qhas (rT σ) (σ 0 10) a q.2.2.2))) C0) nx) 55 [zP x, zP (-10 - (t : Int)), zI (a + n), zI i] [] lay (rC x (zset σ 0 11 a) C0) nx (0, 0) := by
    intro i h0 h1 hsc
    have hbd2 := qscan_bd (P := qlet) (T := rT σ) (e := σ 0 10) (k := a)
    revert i
    refine z_up n ?_ ?_
    · intro hj
      have hh : qhas (rT σ) (σ 0 10) a q.2.2.2 := ⟨by rw [hn]; exact hsc, fun j h => hj j (by omega)⟩
      refine z_il3 eX12_has_55 ?_
      refine z_al1 eX12_has_56 (by omega) ?_
      refine z_txl eX12_has_57 vX12_84 rfl rfl (Nat.le_of_ble_eq_true rfl) (Nat.le_of_ble_eq_true rfl) hS1 hS2 hn2 ?_
      refine z_icmp_ge (tgt := 89) eX12_has_60 rfl ⟨⟨by omega, by omega⟩, ⟨by omega, by omega⟩⟩ (fun h60 => ?_) (fun h60 => (by exfalso; omega))
      refine z_al0 eX12_has_89 hR.ne ?_
      refine z_il2 eX12_has_90 ?_
      refine z_rp (j := 11) lX12_71 eX12_has_91 rfl hR rfl rfl ?_
      rw [zset_zset]
      refine z_iconst eX12_has_94 ?_
      refine z_zreturn eX12_has_95 rfl (by first | exact Or.inl rfl | exact Or.inr rfl | exact zbi_01 _ | assumption | omega) ?_
      rw [zbi_t hh, Int.mul_one]
      exact ⟨rfl, rfl, rfl, rfl⟩
    · intro i h0 h1 ih hj
      have hb := hT.2.2.2 (a + i) (by omega) (by omega)
      obtain ⟨c1, c2, c3⟩ := hC i h0 h1
      refine z_il3 eX12_has_55 ?_
      refine z_al1 eX12_has_56 (by omega) ?_
      refine z_txl eX12_has_57 vX12_84 rfl rfl (Nat.le_of_ble_eq_true rfl) (Nat.le_of_ble_eq_true rfl) hS1 hS2 hn2 ?_
      refine z_icmp_ge (tgt := 89) eX12_has_60 rfl ⟨⟨by omega, by omega⟩, ⟨by omega, by omega⟩⟩ (fun h60 => (by exfalso; omega)) (fun h60 => ?_)
      refine z_al0 eX12_has_63 hR.ne ?_
      refine z_al0 eX12_has_64 hR.ne ?_
      refine z_rg (j := 11) lX12_71 eX12_has_65 rfl hR rfl rfl ?_
      refine z_il3 eX12_has_68 ?_
      refine z_iadd eX12_has_69 ?_
      refine z_V1 eX12_has_70 vX12_77 rfl rfl (Nat.le_of_ble_eq_true rfl) (Nat.le_of_ble_eq_true rfl) hR.x (m_X12_letter hR hT2.1 ⟨by omega, by omega⟩) ?_
      rw [hT2.2, e1]
      refine z_al1 eX12_has_73 (by omega) ?_
      refine z_il3 eX12_has_74 ?_
      refine z_chr eX12_has_75 vX12_90 rfl rfl (Nat.le_of_ble_eq_true rfl) (Nat.le_of_ble_eq_true rfl) hS1 hS2 hn2.2 ⟨by omega, by omega⟩ (by rw [c1]; exact ⟨c2, c3⟩) ?_
      rw [c1]
      refine z_icmp_eq (tgt := 83) eX12_has_78 rfl ⟨⟨by omega, by omega⟩, ⟨by omega, by omega⟩⟩ (fun h78 => ?_) (fun h78 => ?_)
      · refine z_ii3 eX12_has_83 (Nat.ne_of_beq_eq_false rfl) ?_
        refine z_goto eX12_has_86 (tgt := 55) rfl ?_
        refine ih (fun j hj2 => ?_)
        by_cases hji : (j : Int) = i
        · rw [hji, show j = i.toNat by omega]; exact h78
        · exact hj j (by omega)
      · refine z_iconst eX12_has_81 ?_
        refine z_zreturn eX12_has_82 rfl (by first | exact Or.inl rfl | exact Or.inr rfl | exact zbi_01 _ | assumption | omega) ?_
        have hh : ¬ qhas (rT σ) (σ 0 10) a q.2.2.2 := fun z => h78 (by have := z.2 i.toNat (by omega); rwa [Int.toNat_of_nonneg h0] at this)
        rw [zbi_f hh, Int.mul_zero, Int.add_zero]
        exact ⟨rfl, rfl, rfl, rfl⟩
  have hl : ∀ (m : Nat) (k : Int), (σ 0 10 - k).toNat = m → a ≤ k → k ≤ σ 0 10 → qscan qlet (rT σ) (σ 0 10) a = qscan qlet (rT σ) (σ 0 10) k → zW G KX12_has 6 (zR (some (zI (zbi (qhas (rT σ) (σ 0 10) a q.2.2.2)))) lay (rC x (zset σ 0 11 (a + n * zbi (qhas (rT σ) (σ 0 10) a q.2.2.2))) C0) nx) 9 [zP x, zP (-10 - (t : Int)), zI k, zU] [] lay (rC x (zset σ 0 11 a) C0) nx (0, 0) := by
    intro m
    induction m with
    | zero =>
      intro k hm h0 h1 hsc
      rw [qscan_ge (k := k) (by omega)] at hsc
      refine z_il2 eX12_has_9 ?_
      refine z_al0 eX12_has_10 hR.ne ?_
      refine z_rg (j := 10) lX12_74 eX12_has_11 rfl hR rfl rfl ?_
      refine z_icmp_ge (tgt := 38) eX12_has_14 rfl ⟨⟨by omega, by omega⟩, ⟨by omega, by omega⟩⟩ (fun h14 => ?_) (fun h14 => (by exfalso; omega))
      refine z_il2 eX12_has_38 ?_
      refine z_al0 eX12_has_39 hR.ne ?_
      refine z_rg (j := 11) lX12_71 eX12_has_40 rfl hR rfl rfl ?_
      refine z_isub eX12_has_43 ?_
      refine z_al1 eX12_has_44 (by omega) ?_
      refine z_txl eX12_has_45 vX12_84 rfl rfl (Nat.le_of_ble_eq_true rfl) (Nat.le_of_ble_eq_true rfl) hS1 hS2 hn2 ?_
      refine z_icmp_eq (tgt := 53) eX12_has_48 rfl ⟨⟨by omega, by omega⟩, ⟨by omega, by omega⟩⟩ (fun h48 => ?_) (fun h48 => ?_)
      · refine z_iconst eX12_has_53 ?_
        refine z_is3 eX12_has_54 (Nat.ne_of_beq_eq_false rfl) ?_
        rw [show k = a + n by omega]
        exact hw 0 (by omega) (by omega) (by omega) (fun j hj => absurd hj (by omega))
      · refine z_iconst eX12_has_51 ?_
        refine z_zreturn eX12_has_52 rfl (by first | exact Or.inl rfl | exact Or.inr rfl | exact zbi_01 _ | assumption | omega) ?_
        have hh : ¬ qhas (rT σ) (σ 0 10) a q.2.2.2 := fun z => absurd z.1 (by omega)
        rw [zbi_f hh, Int.mul_zero, Int.add_zero]
        exact ⟨rfl, rfl, rfl, rfl⟩
    | succ m ih =>
      intro k hm h0 h1 hsc
      have hb := hT.2.2.2 k (by omega) (by omega)
      refine z_il2 eX12_has_9 ?_
      refine z_al0 eX12_has_10 hR.ne ?_
      refine z_rg (j := 10) lX12_74 eX12_has_11 rfl hR rfl rfl ?_
      refine z_icmp_ge (tgt := 38) eX12_has_14 rfl ⟨⟨by omega, by omega⟩, ⟨by omega, by omega⟩⟩ (fun h14 => (by exfalso; omega)) (fun h14 => ?_)
      refine z_al0 eX12_has_17 hR.ne ?_
      refine z_il2 eX12_has_18 ?_
      refine z_V1 eX12_has_19 vX12_77 rfl rfl (Nat.le_of_ble_eq_true rfl) (Nat.le_of_ble_eq_true rfl) hR.x (m_X12_letter hR hT2.1 ⟨by omega, by omega⟩) ?_
      rw [hT2.2]
      refine z_bipush eX12_has_22 (by decide) ?_
      refine z_bipush eX12_has_24 (by decide) ?_
      refine z_S3 eX12_has_26 vX12_51 rfl rfl (Nat.le_of_ble_eq_true rfl) (Nat.le_of_ble_eq_true rfl) (m_X12_isIn (by refine ⟨?_, ?_, ?_⟩ <;> first | omega | decide)) ?_
      refine z_ifb_eq (tgt := 38) eX12_has_29 rfl (fun h29 => ?_) (fun h29 => ?_)
      · rw [qscan_f (k := k) (by omega) (by simpa [qlet] using h29)] at hsc
        refine z_il2 eX12_has_38 ?_
        refine z_al0 eX12_has_39 hR.ne ?_
        refine z_rg (j := 11) lX12_71 eX12_has_40 rfl hR rfl rfl ?_
        refine z_isub eX12_has_43 ?_
        refine z_al1 eX12_has_44 (by omega) ?_
        refine z_txl eX12_has_45 vX12_84 rfl rfl (Nat.le_of_ble_eq_true rfl) (Nat.le_of_ble_eq_true rfl) hS1 hS2 hn2 ?_
        refine z_icmp_eq (tgt := 53) eX12_has_48 rfl ⟨⟨by omega, by omega⟩, ⟨by omega, by omega⟩⟩ (fun h48 => ?_) (fun h48 => ?_)
        · refine z_iconst eX12_has_53 ?_
          refine z_is3 eX12_has_54 (Nat.ne_of_beq_eq_false rfl) ?_
          rw [show k = a + n by omega]
          exact hw 0 (by omega) (by omega) (by omega) (fun j hj => absurd hj (by omega))
        · refine z_iconst eX12_has_51 ?_
          refine z_zreturn eX12_has_52 rfl (by first | exact Or.inl rfl | exact Or.inr rfl | exact zbi_01 _ | assumption | omega) ?_
          have hh : ¬ qhas (rT σ) (σ 0 10) a q.2.2.2 := fun z => absurd z.1 (by omega)
          rw [zbi_f hh, Int.mul_zero, Int.add_zero]
          exact ⟨rfl, rfl, rfl, rfl⟩
      · refine z_ii2 eX12_has_32 (Nat.ne_of_beq_eq_false rfl) ?_
        refine z_goto eX12_has_35 (tgt := 9) rfl ?_
        exact ih (k + 1) (by omega) (by omega) (by omega) (by rw [hsc, qscan_t (k := k) (by omega) (by simpa [qlet] using h29)])
  refine z_met' (L := [zP x, zP (-10 - (t : Int)), zU, zU]) gX12_has.1 rfl rfl (Nat.le_of_ble_eq_true rfl) rfl ?_
  refine z_al0 eX12_has_0 hR.ne ?_
  refine z_V0v eX12_has_1 vX12_81 rfl rfl (Nat.le_of_ble_eq_true rfl) (Nat.le_of_ble_eq_true rfl) hR.x (m_X12_skip hR hT ⟨by omega, by omega⟩) ?_
  rw [ha']
  refine z_al0 eX12_has_4 hR.ne ?_
  refine z_rg (j := 11) lX12_71 eX12_has_5 rfl hR rfl rfl ?_
  refine z_is2 eX12_has_8 (Nat.ne_of_beq_eq_false rfl) ?_
  rw [e1]
  exact hl _ a rfl (by omega) (by omega) rfl
