/-! The soonest, the likeliest, the worst. -/
/-- the first of m numbers from n on -/
noncomputable def qFst (p : Int → Prop) : Nat → Int → Int
  | 0, _ => -1
  | m + 1, n => zif (p n) n (qFst p m (n + 1))
/-- where f is most, and the most; ahead of all, f0 and m0 -/
def qMax (f : Int → Int) (f0 m0 n : Int) : Int × Int := zfold (fun i (r : Int × Int) => if r.2 < f i then (i, f i) else r) (f0, m0) n
def qMin (f : Int → Int) (f0 m0 n : Int) : Int × Int := zfold (fun i (r : Int × Int) => if f i < r.2 then (i, f i) else r) (f0, m0) n
theorem qMax_s (f : Int → Int) (f0 m0 : Int) {n : Int} (hn : 0 ≤ n) : qMax f f0 m0 (n + 1) = if (qMax f f0 m0 n).2 < f n then (n, f n) else qMax f f0 m0 n := by unfold qMax; rw [zfold_s _ _ hn]
theorem qMin_s (f : Int → Int) (f0 m0 : Int) {n : Int} (hn : 0 ≤ n) : qMin f f0 m0 (n + 1) = if f n < (qMin f f0 m0 n).2 then (n, f n) else qMin f f0 m0 n := by unfold qMin; rw [zfold_s _ _ hn]
theorem qMax_bd {f : Int → Int} {f0 m0 c : Int} (hm : m0 ≤ c) : ∀ n : Int, 0 ≤ n → (∀ i, 0 ≤ i → i < n → f i ≤ c) → m0 ≤ (qMax f f0 m0 n).2 ∧ (qMax f f0 m0 n).2 ≤ c := by
  have : ∀ m : Nat, (∀ i, 0 ≤ i → i < (m : Int) → f i ≤ c) → m0 ≤ (qMax f f0 m0 m).2 ∧ (qMax f f0 m0 m).2 ≤ c := by
    intro m
    induction m with
    | zero => intro _; exact ⟨Int.le_refl m0, hm⟩
    | succ m ih =>
      intro h
      have h1 := ih (fun i i0 i1 => h i i0 (by omega))
      have h2 := h m (by omega) (by omega)
      rw [show ((m + 1 : Nat) : Int) = (m : Int) + 1 by omega, qMax_s _ _ _ (by omega)]
      split
      · dsimp only; omega
      · exact h1
  intro n hn h
  have h1 := this n.toNat (fun i i0 i1 => h i i0 (by omega))
  rwa [Int.toNat_of_nonneg hn] at h1
theorem qMin_bd {f : Int → Int} {f0 m0 c : Int} (hm : c ≤ m0) : ∀ n : Int, 0 ≤ n → (∀ i, 0 ≤ i → i < n → c ≤ f i) → c ≤ (qMin f f0 m0 n).2 ∧ (qMin f f0 m0 n).2 ≤ m0 := by
  have : ∀ m : Nat, (∀ i, 0 ≤ i → i < (m : Int) → c ≤ f i) → c ≤ (qMin f f0 m0 m).2 ∧ (qMin f f0 m0 m).2 ≤ m0 := by
    intro m
    induction m with
    | zero => intro _; exact ⟨hm, Int.le_refl m0⟩
    | succ m ih =>
      intro h
      have h1 := ih (fun i i0 i1 => h i i0 (by omega))
      have h2 := h m (by omega) (by omega)
      rw [show ((m + 1 : Nat) : Int) = (m : Int) + 1 by omega, qMin_s _ _ _ (by omega)]
      split
      · dsimp only; omega
      · exact h1
  intro n hn h
  have h1 := this n.toNat (fun i i0 i1 => h i i0 (by omega))
  rwa [Int.toNat_of_nonneg hn] at h1
theorem m_X12_carries {G : zG} {lay : zLay} {σ C0 : zMem} {nx x : Int} {k n : Int} (hR : RefL lay x) (hS : TxS lay C0) (hJ : zJs σ) (hM : zOL (σ 1)) (hk : zin k) (hn : zin n) : zMM G 69 KX12_carries [zP x, zI k, zI n] lay (rC x σ C0) nx (0, 0) (zX' (some (zI (if qThr2 (0 ≤ k ∧ k < σ 1 4) (1 ≤ n ∧ n ≤ 24) = 0 then qCar (σ 1) k n else 0))) (zScw (zset σ 0 0 (qThr2 (0 ≤ k ∧ k < σ 1 4) (1 ≤ n ∧ n ≤ 24)))) lay C0 nx x) := by
  refine z_met' (L := [zP x, zI k, zI n]) gX12_carries.1 rfl rfl (Nat.le_of_ble_eq_true rfl) rfl ?_
  obtain ⟨k1, k2⟩ := hk
  obtain ⟨n1, n2⟩ := hn
  have hm4 := hM.1.1.m4
  have hJ1 : ∀ v, zJs (zset σ 0 0 v) := fun v => hJ.set (by decide) (fun _ => Or.inl rfl)
  refine z_al0 eX12_carries_0 hR.ne ?_
  refine z_al0 eX12_carries_1 hR.ne ?_
  refine z_il1 eX12_carries_2 ?_
  refine z_V1 eX12_carries_3 vX12_326 rfl rfl (Nat.le_of_ble_eq_true rfl) (Nat.le_of_ble_eq_true rfl) hR.x (m_X12_isMotion hR ⟨by omega, by omega⟩ hm4) ?_
  try rw [zset_001]
  refine z_ifb_ne (tgt := 13) eX12_carries_6 rfl (fun h6 => ?_) (fun h6 => ?_)
  · refine z_il2 eX12_carries_13 ?_
    refine z_iconst eX12_carries_14 ?_
    refine z_bipush eX12_carries_15 (by decide) ?_
    refine z_S3 eX12_carries_17 vX12_51 rfl rfl (Nat.le_of_ble_eq_true rfl) (Nat.le_of_ble_eq_true rfl) (m_X12_isIn (by refine ⟨?_, ?_, ?_⟩ <;> first | omega | decide | assumption)) ?_
    try rw [zset_001]
    refine z_ifb_ne (tgt := 27) eX12_carries_20 rfl (fun h20 => ?_) (fun h20 => ?_)
    · refine z_iconst eX12_carries_27 ?_
      refine z_rp (j := 0) lX12_48 eX12_carries_28 rfl hR rfl rfl ?_
      refine z_al0 eX12_carries_31 hR.ne ?_
      refine z_rg (j := 0) lX12_48 eX12_carries_32 rfl hR rfl rfl ?_
      try rw [zset_001]
      rw [zset_eq]
      refine z_if_le (tgt := 42) eX12_carries_35 rfl ⟨by omega, by omega⟩ (fun h35 => ?_) (fun h35 => (by exfalso; omega))
      refine z_al0 eX12_carries_42 hR.ne ?_
      refine z_il1 eX12_carries_43 ?_
      refine z_il2 eX12_carries_44 ?_
      refine z_V2x eX12_carries_45 vX12_357 rfl rfl (Nat.le_of_ble_eq_true rfl) (Nat.le_of_ble_eq_true rfl) hR.x (m_X12_carriesIn hR hS (hJ1 _) (by rw [zset_001]; exact hM) ⟨by omega, by omega⟩ ⟨by omega, by omega⟩) (fun s45 hs45 => ?_)
      try rw [zset_001]
      refine z_ireturn eX12_carries_48 rfl ?_
      first | (rw [qThr2_0 (by omega) (by omega), if_pos rfl]; exact zXe hs45 rfl) | (rw [qThr2_1 (by omega), if_neg (by decide)]; exact zXe (zScw.refl (hJ1 _)) rfl) | (rw [qThr2_2 (by omega) (by omega), if_neg (by decide)]; exact zXe (zScw.refl (hJ1 _)) rfl)
    · refine z_iconst eX12_carries_23 ?_
      refine z_goto eX12_carries_24 (tgt := 28) rfl ?_
      refine z_rp (j := 0) lX12_48 eX12_carries_28 rfl hR rfl rfl ?_
      refine z_al0 eX12_carries_31 hR.ne ?_
      refine z_rg (j := 0) lX12_48 eX12_carries_32 rfl hR rfl rfl ?_
      try rw [zset_001]
      rw [zset_eq]
      refine z_if_le (tgt := 42) eX12_carries_35 rfl ⟨by omega, by omega⟩ (fun h35 => (by exfalso; omega)) (fun h35 => ?_)
      refine z_iconst eX12_carries_38 ?_
      refine z_goto eX12_carries_39 (tgt := 48) rfl ?_
      refine z_ireturn eX12_carries_48 rfl ?_
      first | (rw [qThr2_0 (by omega) (by omega), if_pos rfl]; exact zXe hs45 rfl) | (rw [qThr2_1 (by omega), if_neg (by decide)]; exact zXe (zScw.refl (hJ1 _)) rfl) | (rw [qThr2_2 (by omega) (by omega), if_neg (by decide)]; exact zXe (zScw.refl (hJ1 _)) rfl)
  · refine z_iconst eX12_carries_9 ?_
    refine z_goto eX12_carries_10 (tgt := 28) rfl ?_
    refine z_rp (j := 0) lX12_48 eX12_carries_28 rfl hR rfl rfl ?_
    refine z_al0 eX12_carries_31 hR.ne ?_
    refine z_rg (j := 0) lX12_48 eX12_carries_32 rfl hR rfl rfl ?_
    try rw [zset_001]
    rw [zset_eq]
    refine z_if_le (tgt := 42) eX12_carries_35 rfl ⟨by omega, by omega⟩ (fun h35 => (by exfalso; omega)) (fun h35 => ?_)
    refine z_iconst eX12_carries_38 ?_
    refine z_goto eX12_carries_39 (tgt := 48) rfl ?_
    refine z_ireturn eX12_carries_48 rfl ?_
    first | (rw [qThr2_0 (by omega) (by omega), if_pos rfl]; exact zXe hs45 rfl) | (rw [qThr2_1 (by omega), if_neg (by decide)]; exact zXe (zScw.refl (hJ1 _)) rfl) | (rw [qThr2_2 (by omega) (by omega), if_neg (by decide)]; exact zXe (zScw.refl (hJ1 _)) rfl)
theorem m_X12_soonest {G : zG} {lay : zLay} {σ C0 : zMem} {nx x : Int} {k n : Int} (hR : RefL lay x) (hS : TxS lay C0) (hJ : zJs σ) (hM : zOL (σ 1)) (hk : zin k) (hn : zin n) : zMM G 69 KX12_soonest [zP x, zI k, zI n] lay (rC x σ C0) nx (0, 0) (zX' (some (zI (if qThr2 (0 ≤ k ∧ k < σ 1 4) (0 ≤ n ∧ n ≤ 10000) = 0 then qFst (fun i => n ≤ qCar (σ 1) k i) 24 1 else 0))) (zScw (zset σ 0 0 (qThr2 (0 ≤ k ∧ k < σ 1 4) (0 ≤ n ∧ n ≤ 10000)))) lay C0 nx x) := by
  refine z_met' (L := [zP x, zI k, zI n, zU]) gX12_soonest.1 rfl rfl (Nat.le_of_ble_eq_true rfl) rfl ?_
  obtain ⟨k1, k2⟩ := hk
  obtain ⟨n1, n2⟩ := hn
  have hm4 := hM.1.1.m4
  have hJ1 : ∀ v, zJs (zset σ 0 0 v) := fun v => hJ.set (by decide) (fun _ => Or.inl rfl)
  have hl : (0 ≤ k ∧ k < σ 1 4) → ∀ (m : Nat) (i : Int) (S : zMem) (r : Int), i + m = 25 → 1 ≤ i → zScw (zset σ 0 0 0) S → qFst (fun i => n ≤ qCar (σ 1) k i) m i = r → zW G KX12_soonest 69 (zX' (some (zI r)) (zScw (zset σ 0 0 0)) lay C0 nx x) 43 [zP x, zI k, zI n, zI i] [] lay (rC x S C0) nx (0, 0) := by
    intro hkk m
    induction m with
    | zero =>
      intro i S r hi h1 hSc hr
      refine z_il3 eX12_soonest_43 ?_
      refine z_bipush eX12_soonest_44 (by decide) ?_
      refine z_icmp_gt (tgt := 67) eX12_soonest_46 rfl ⟨⟨by omega, by omega⟩, ⟨by omega, by omega⟩⟩ (fun h46 => ?_) (fun h46 => (by exfalso; omega))
      refine z_iconst eX12_soonest_67 ?_
      refine z_ireturn eX12_soonest_68 rfl ?_
      exact zXe hSc (by unfold qFst at hr; exact hr)
    | succ m ih =>
      intro i S r hi h1 hSc hr
      have hb := qCar_bd hM.1 k (n := i) (by omega)
      have hS1 : S 1 = σ 1 := by rw [hSc.r1, zset_001]
      unfold qFst at hr
      refine z_il3 eX12_soonest_43 ?_
      refine z_bipush eX12_soonest_44 (by decide) ?_
      refine z_icmp_gt (tgt := 67) eX12_soonest_46 rfl ⟨⟨by omega, by omega⟩, ⟨by omega, by omega⟩⟩ (fun h46 => (by exfalso; omega)) (fun h46 => ?_)
      refine z_al0 eX12_soonest_49 hR.ne ?_
      refine z_il1 eX12_soonest_50 ?_
      refine z_il3 eX12_soonest_51 ?_
      refine z_V2x eX12_soonest_52 vX12_357 rfl rfl (Nat.le_of_ble_eq_true rfl) (Nat.le_of_ble_eq_true rfl) hR.x (m_X12_carriesIn hR hS hSc.2.2 (by rw [hS1]; exact hM) ⟨by omega, by omega⟩ ⟨by omega, by omega⟩) (fun s52 hs52 => ?_)
      rw [hS1]
      refine z_il2 eX12_soonest_55 ?_
      refine z_icmp_lt (tgt := 61) eX12_soonest_56 rfl ⟨⟨by omega, by omega⟩, ⟨by omega, by omega⟩⟩ (fun h56 => ?_) (fun h56 => ?_)
      · refine z_ii3 eX12_soonest_61 (Nat.ne_of_beq_eq_false rfl) ?_
        refine z_goto eX12_soonest_64 (tgt := 43) rfl ?_
        rw [zif_f (by show ¬ n ≤ qCar (σ 1) k i; omega)] at hr; exact ih (i + 1) s52 r (by omega) (by omega) (hSc.trans hs52) hr
      · refine z_il3 eX12_soonest_59 ?_
        refine z_ireturn eX12_soonest_60 rfl ?_
        rw [zif_t (by show n ≤ qCar (σ 1) k i; omega)] at hr; exact zXe (hSc.trans hs52) hr
  refine z_al0 eX12_soonest_0 hR.ne ?_
  refine z_al0 eX12_soonest_1 hR.ne ?_
  refine z_il1 eX12_soonest_2 ?_
  refine z_V1 eX12_soonest_3 vX12_326 rfl rfl (Nat.le_of_ble_eq_true rfl) (Nat.le_of_ble_eq_true rfl) hR.x (m_X12_isMotion hR ⟨by omega, by omega⟩ hm4) ?_
  refine z_ifb_ne (tgt := 13) eX12_soonest_6 rfl (fun h6 => ?_) (fun h6 => ?_)
  · refine z_il2 eX12_soonest_13 ?_
    refine z_iconst eX12_soonest_14 ?_
    refine z_sipush eX12_soonest_15 (by decide) ?_
    refine z_S3 eX12_soonest_18 vX12_51 rfl rfl (Nat.le_of_ble_eq_true rfl) (Nat.le_of_ble_eq_true rfl) (m_X12_isIn (by refine ⟨?_, ?_, ?_⟩ <;> first | omega | decide | assumption)) ?_
    refine z_ifb_ne (tgt := 28) eX12_soonest_21 rfl (fun h21 => ?_) (fun h21 => ?_)
    · refine z_iconst eX12_soonest_28 ?_
      refine z_rp (j := 0) lX12_48 eX12_soonest_29 rfl hR rfl rfl ?_
      refine z_al0 eX12_soonest_32 hR.ne ?_
      refine z_rg (j := 0) lX12_48 eX12_soonest_33 rfl hR rfl rfl ?_
      rw [zset_eq]
      refine z_if_le (tgt := 41) eX12_soonest_36 rfl ⟨by omega, by omega⟩ (fun h36 => ?_) (fun h36 => (by exfalso; omega))
      refine z_iconst eX12_soonest_41 ?_
      refine z_is3 eX12_soonest_42 (Nat.ne_of_beq_eq_false rfl) ?_
      rw [qThr2_0 (by omega) (by omega), if_pos rfl]; exact hl (by omega) 24 1 _ _ (by decide) (by decide) (zScw.refl (hJ1 _)) rfl
    · refine z_iconst eX12_soonest_24 ?_
      refine z_goto eX12_soonest_25 (tgt := 29) rfl ?_
      refine z_rp (j := 0) lX12_48 eX12_soonest_29 rfl hR rfl rfl ?_
      refine z_al0 eX12_soonest_32 hR.ne ?_
      refine z_rg (j := 0) lX12_48 eX12_soonest_33 rfl hR rfl rfl ?_
      rw [zset_eq]
      refine z_if_le (tgt := 41) eX12_soonest_36 rfl ⟨by omega, by omega⟩ (fun h36 => (by exfalso; omega)) (fun h36 => ?_)
      refine z_iconst eX12_soonest_39 ?_
      refine z_ireturn eX12_soonest_40 rfl ?_
      first | (rw [qThr2_1 (by omega), if_neg (by decide)]; exact zXe (zScw.refl (hJ1 _)) rfl) | (rw [qThr2_2 (by omega) (by omega), if_neg (by decide)]; exact zXe (zScw.refl (hJ1 _)) rfl)
  · refine z_iconst eX12_soonest_9 ?_
    refine z_goto eX12_soonest_10 (tgt := 29) rfl ?_
    refine z_rp (j := 0) lX12_48 eX12_soonest_29 rfl hR rfl rfl ?_
    refine z_al0 eX12_soonest_32 hR.ne ?_
    refine z_rg (j := 0) lX12_48 eX12_soonest_33 rfl hR rfl rfl ?_
    rw [zset_eq]
    refine z_if_le (tgt := 41) eX12_soonest_36 rfl ⟨by omega, by omega⟩ (fun h36 => (by exfalso; omega)) (fun h36 => ?_)
    refine z_iconst eX12_soonest_39 ?_
    refine z_ireturn eX12_soonest_40 rfl ?_
    first | (rw [qThr2_1 (by omega), if_neg (by decide)]; exact zXe (zScw.refl (hJ1 _)) rfl) | (rw [qThr2_2 (by omega) (by omega), if_neg (by decide)]; exact zXe (zScw.refl (hJ1 _)) rfl)
noncomputable def qWhen (M : Int → Int) (k : Int) : Int := (qMax (fun i => qCar M k (i + 1)) (-1) (-1) 24).1 + 1
theorem m_X12_when {G : zG} {lay : zLay} {σ C0 : zMem} {nx x : Int} {k : Int} (hR : RefL lay x) (hS : TxS lay C0) (hJ : zJs σ) (hM : zOL (σ 1)) (hk : zin k) : zMM G 69 KX12_when [zP x, zI k] lay (rC x σ C0) nx (0, 0) (zX' (some (zI (if 0 ≤ k ∧ k < σ 1 4 then qWhen (σ 1) k else 0))) (zScw (zset σ 0 0 (qThr1 (0 ≤ k ∧ k < σ 1 4)))) lay C0 nx x) := by
  refine z_met' (L := [zP x, zI k, zU, zU, zU, zU]) gX12_when.1 rfl rfl (Nat.le_of_ble_eq_true rfl) rfl ?_
  obtain ⟨k1, k2⟩ := hk
  have hm4 := hM.1.1.m4
  have hJ1 : ∀ v, zJs (zset σ 0 0 v) := fun v => hJ.set (by decide) (fun _ => Or.inl rfl)
  have hl : (0 ≤ k ∧ k < σ 1 4) → ∀ i : Int, 0 ≤ i → i ≤ 24 → ∀ (S : zMem) (y : zAV), y.1 ≠ 1 → zScw (zset σ 0 0 0) S → zW G KX12_when 69 (zX' (some (zI (qWhen (σ 1) k))) (zScw (zset σ 0 0 0)) lay C0 nx x) 33 [zP x, zI k, zI ((qMax (fun i => qCar (σ 1) k (i + 1)) (-1) (-1) i).1 + 1), zI (qMax (fun i => qCar (σ 1) k (i + 1)) (-1) (-1) i).2, zI (i + 1), y] [] lay (rC x S C0) nx (0, 0) := by
    intro hkk
    refine z_up 24 ?_ ?_
    · intro S y hy hSc
      refine z_il4 eX12_when_33 ?_
      refine z_bipush eX12_when_35 (by decide) ?_
      refine z_icmp_gt (tgt := 70) eX12_when_37 rfl ⟨⟨by omega, by omega⟩, ⟨by omega, by omega⟩⟩ (fun h37 => ?_) (fun h37 => (by exfalso; omega))
      refine z_il2 eX12_when_70 ?_
      refine z_ireturn eX12_when_71 rfl ?_
      exact zXe hSc rfl
    · intro i i0 i1 ih S y hy hSc
      have hb := qCar_bd hM.1 k (n := i + 1) (by omega)
      have hq := qMax_bd (f := fun i => qCar (σ 1) k (i + 1)) (f0 := -1) (m0 := -1) (c := 50000) (by decide) i i0 (fun j j0 _ => (qCar_bd hM.1 k (n := j + 1) (by omega)).2)
      have hS1 : S 1 = σ 1 := by rw [hSc.r1, zset_001]
      rw [qMax_s _ _ _ i0] at ih
      refine z_il4 eX12_when_33 ?_
      refine z_bipush eX12_when_35 (by decide) ?_
      refine z_icmp_gt (tgt := 70) eX12_when_37 rfl ⟨⟨by omega, by omega⟩, ⟨by omega, by omega⟩⟩ (fun h37 => (by exfalso; omega)) (fun h37 => ?_)
      refine z_al0 eX12_when_40 hR.ne ?_
      refine z_il1 eX12_when_41 ?_
      refine z_il4 eX12_when_42 ?_
      refine z_V2x eX12_when_44 vX12_357 rfl rfl (Nat.le_of_ble_eq_true rfl) (Nat.le_of_ble_eq_true rfl) hR.x (m_X12_carriesIn hR hS hSc.2.2 (by rw [hS1]; exact hM) ⟨by omega, by omega⟩ ⟨by omega, by omega⟩) (fun s44 hs44 => ?_)
      rw [hS1]
      refine z_is5 eX12_when_47 (Nat.ne_of_beq_eq_false rfl) ?_
      refine z_il5 eX12_when_49 ?_
      refine z_il3 eX12_when_51 ?_
      refine z_icmp_gt (tgt := 58) eX12_when_52 rfl ⟨⟨by omega, by omega⟩, ⟨by omega, by omega⟩⟩ (fun h52 => ?_) (fun h52 => ?_)
      · refine z_il5 eX12_when_58 ?_
        refine z_is3 eX12_when_60 (Nat.ne_of_beq_eq_false rfl) ?_
        refine z_il4 eX12_when_61 ?_
        refine z_is2 eX12_when_63 (Nat.ne_of_beq_eq_false rfl) ?_
        refine z_ii4 eX12_when_64 (Nat.ne_of_beq_eq_false rfl) ?_
        refine z_goto eX12_when_67 (tgt := 33) rfl ?_
        first | (rw [if_pos (by omega)] at ih; exact ih s44 _ (Nat.ne_of_beq_eq_false rfl) (hSc.trans hs44)) | (rw [if_neg (by omega)] at ih; exact ih s44 _ (Nat.ne_of_beq_eq_false rfl) (hSc.trans hs44)) | fail
      · refine z_goto eX12_when_55 (tgt := 64) rfl ?_
        refine z_ii4 eX12_when_64 (Nat.ne_of_beq_eq_false rfl) ?_
        refine z_goto eX12_when_67 (tgt := 33) rfl ?_
        first | (rw [if_pos (by omega)] at ih; exact ih s44 _ (Nat.ne_of_beq_eq_false rfl) (hSc.trans hs44)) | (rw [if_neg (by omega)] at ih; exact ih s44 _ (Nat.ne_of_beq_eq_false rfl) (hSc.trans hs44)) | fail
  refine z_al0 eX12_when_0 hR.ne ?_
  refine z_al0 eX12_when_1 hR.ne ?_
  refine z_il1 eX12_when_2 ?_
  refine z_V1 eX12_when_3 vX12_326 rfl rfl (Nat.le_of_ble_eq_true rfl) (Nat.le_of_ble_eq_true rfl) hR.x (m_X12_isMotion hR ⟨by omega, by omega⟩ hm4) ?_
  refine z_ifb_ne (tgt := 13) eX12_when_6 rfl (fun h6 => ?_) (fun h6 => ?_)
  · refine z_iconst eX12_when_13 ?_
    refine z_rp (j := 0) lX12_48 eX12_when_14 rfl hR rfl rfl ?_
    refine z_al0 eX12_when_17 hR.ne ?_
    refine z_rg (j := 0) lX12_48 eX12_when_18 rfl hR rfl rfl ?_
    rw [zset_eq]
    refine z_if_le (tgt := 26) eX12_when_21 rfl ⟨by omega, by omega⟩ (fun h21 => ?_) (fun h21 => (by exfalso; omega))
    refine z_iconst eX12_when_26 ?_
    refine z_is2 eX12_when_27 (Nat.ne_of_beq_eq_false rfl) ?_
    refine z_iconst eX12_when_28 ?_
    refine z_is3 eX12_when_29 (Nat.ne_of_beq_eq_false rfl) ?_
    refine z_iconst eX12_when_30 ?_
    refine z_is4 eX12_when_31 (Nat.ne_of_beq_eq_false rfl) ?_
    rw [qThr1_t (by omega), if_pos (by omega)]; exact hl (by omega) 0 (by decide) (by decide) _ _ (Nat.ne_of_beq_eq_false rfl) (zScw.refl (hJ1 _))
  · refine z_iconst eX12_when_9 ?_
    refine z_goto eX12_when_10 (tgt := 14) rfl ?_
    refine z_rp (j := 0) lX12_48 eX12_when_14 rfl hR rfl rfl ?_
    refine z_al0 eX12_when_17 hR.ne ?_
    refine z_rg (j := 0) lX12_48 eX12_when_18 rfl hR rfl rfl ?_
    rw [zset_eq]
    refine z_if_le (tgt := 26) eX12_when_21 rfl ⟨by omega, by omega⟩ (fun h21 => (by exfalso; omega)) (fun h21 => ?_)
    refine z_iconst eX12_when_24 ?_
    refine z_ireturn eX12_when_25 rfl ?_
    rw [qThr1_f (by omega), if_neg (by omega)]; exact zXe (zScw.refl (hJ1 _)) rfl
/-- how many that wait are carried in a sky now -/
noncomputable def qCarried (M : Int → Int) (s : Int) : Int := zsum (fun k => if M (74 + 5 * k + 4) = 0 ∧ qGo M k s (M 6) = 1 then 1 else 0) (M 4)
theorem qCarried_bd {M : Int → Int} (hM : zOK M) (s : Int) : 0 ≤ qCarried M s ∧ qCarried M s ≤ 8 := by
  have h4 := hM.1.m4
  have := zsum_bnd (f := fun k => if M (74 + 5 * k + 4) = 0 ∧ qGo M k s (M 6) = 1 then 1 else 0) (c := 1) h4.1 (fun t _ _ => by split <;> omega)
  unfold qCarried
  omega
theorem m_X12_worst {G : zG} {lay : zLay} {σ C0 : zMem} {nx x : Int} (hR : RefL lay x) (hS : TxS lay C0) (hJ : zJs σ) (hM : zOL (σ 1)) : zMM G 68 KX12_worst [zP x] lay (rC x σ C0) nx (0, 0) (zX' (some (zI (qMin (qCarried (σ 1)) 0 2000000000 5).1)) (zScr (zset σ 0 0 0)) lay C0 nx x) := by
  refine z_met' (L := [zP x, zU, zU, zU, zU, zU]) gX12_worst.1 rfl rfl (Nat.le_of_ble_eq_true rfl) rfl ?_
  have hm4 := hM.1.1.m4
  have h6 := hM.1.1.s 6 rfl (by omega)
  have hJ1 : zJs (zset σ 0 0 0) := hJ.set (by decide) (fun _ => Or.inl rfl)
  have hl : ∀ s : Int, 0 ≤ s → s ≤ 5 → ∀ (S : zMem) (y4 y5 : zAV), y4.1 ≠ 1 → zScr (zset σ 0 0 0) S → zW G KX12_worst 68 (zX' (some (zI (qMin (qCarried (σ 1)) 0 2000000000 5).1)) (zScr (zset σ 0 0 0)) lay C0 nx x) 13 [zP x, zI (qMin (qCarried (σ 1)) 0 2000000000 s).1, zI (qMin (qCarried (σ 1)) 0 2000000000 s).2, zI s, y4, y5] [] lay (rC x S C0) nx (0, 0) := by
    refine z_up 5 ?_ ?_
    · intro S y4 y5 hy hSc
      refine z_il3 eX12_worst_13 ?_
      refine z_iconst eX12_worst_14 ?_
      refine z_icmp_ge (tgt := 98) eX12_worst_15 rfl ⟨⟨by omega, by omega⟩, ⟨by omega, by omega⟩⟩ (fun h15 => ?_) (fun h15 => (by exfalso; omega))
      refine z_il1 eX12_worst_98 ?_
      refine z_ireturn eX12_worst_99 rfl ?_
      exact zXe hSc rfl
    · intro s s0 s1 ih S y4 y5 hy hSc
      have hb := qCarried_bd hM.1 s
      have hq := qMin_bd (f := qCarried (σ 1)) (f0 := 0) (m0 := 2000000000) (c := 0) (by decide) s s0 (fun j _ _ => (qCarried_bd hM.1 j).1)
      rw [qMin_s _ _ _ s0] at ih
      have hin : ∀ k : Int, 0 ≤ k → k ≤ σ 1 4 → ∀ S : zMem, zScr (zset σ 0 0 0) S → zW G KX12_worst 68 (zX' (some (zI (qMin (qCarried (σ 1)) 0 2000000000 5).1)) (zScr (zset σ 0 0 0)) lay C0 nx x) 24 [zP x, zI (qMin (qCarried (σ 1)) 0 2000000000 s).1, zI (qMin (qCarried (σ 1)) 0 2000000000 s).2, zI s, zI (zsum (fun k => if σ 1 (74 + 5 * k + 4) = 0 ∧ qGo (σ 1) k s (σ 1 6) = 1 then 1 else 0) k), zI k] [] lay (rC x S C0) nx (0, 0) := by
        refine z_up (σ 1 4) ?_ ?_
        · intro S hSc
          change zW _ _ _ _ _ [_, _, _, _, zI (qCarried (σ 1) s), _] _ _ _ _ _
          have hS1 : S 1 = σ 1 := by rw [hSc.r1, zset_001]
          refine z_il5 eX12_worst_24 ?_
          refine z_al0 eX12_worst_26 hR.ne ?_
          refine z_ra lX12_7 eX12_worst_27 rfl hR rfl ?_
          try rw [hS1]
          refine z_iconst eX12_worst_30 ?_
          refine z_rl eX12_worst_31 hR (by decide) rfl rfl ⟨by omega, by omega⟩ ?_
          try rw [hS1]
          refine z_icmp_ge (tgt := 78) eX12_worst_32 rfl ⟨⟨by omega, by omega⟩, ⟨by omega, by omega⟩⟩ (fun h32 => ?_) (fun h32 => (by exfalso; omega))
          refine z_il4 eX12_worst_78 ?_
          refine z_il2 eX12_worst_80 ?_
          refine z_icmp_lt (tgt := 87) eX12_worst_81 rfl ⟨⟨by omega, by omega⟩, ⟨by omega, by omega⟩⟩ (fun h81 => ?_) (fun h81 => ?_)
          · refine z_il4 eX12_worst_87 ?_
            refine z_is2 eX12_worst_89 (Nat.ne_of_beq_eq_false rfl) ?_
            refine z_il3 eX12_worst_90 ?_
            refine z_is1 eX12_worst_91 (Nat.ne_of_beq_eq_false rfl) ?_
            refine z_ii3 eX12_worst_92 (Nat.ne_of_beq_eq_false rfl) ?_
            refine z_goto eX12_worst_95 (tgt := 13) rfl ?_
            first | (rw [if_pos (by omega)] at ih; exact ih S _ _ (Nat.ne_of_beq_eq_false rfl) hSc) | (rw [if_neg (by omega)] at ih; exact ih S _ _ (Nat.ne_of_beq_eq_false rfl) hSc) | fail
          · refine z_goto eX12_worst_84 (tgt := 92) rfl ?_
            refine z_ii3 eX12_worst_92 (Nat.ne_of_beq_eq_false rfl) ?_
            refine z_goto eX12_worst_95 (tgt := 13) rfl ?_
            first | (rw [if_pos (by omega)] at ih; exact ih S _ _ (Nat.ne_of_beq_eq_false rfl) hSc) | (rw [if_neg (by omega)] at ih; exact ih S _ _ (Nat.ne_of_beq_eq_false rfl) hSc) | fail
        · intro k k0 k1 ih2 S hSc
          have hV := hM.1.1.V (k := k) ⟨k0, by omega⟩
          have hg := qGo_bd (σ 1) k s (σ 1 6)
          have hS1 : S 1 = σ 1 := by rw [hSc.r1, zset_001]
          rw [zsum_s _ k0] at ih2
          refine z_il5 eX12_worst_24 ?_
          refine z_al0 eX12_worst_26 hR.ne ?_
          refine z_ra lX12_7 eX12_worst_27 rfl hR rfl ?_
          try rw [hS1]
          refine z_iconst eX12_worst_30 ?_
          refine z_rl eX12_worst_31 hR (by decide) rfl rfl ⟨by omega, by omega⟩ ?_
          try rw [hS1]
          refine z_icmp_ge (tgt := 78) eX12_worst_32 rfl ⟨⟨by omega, by omega⟩, ⟨by omega, by omega⟩⟩ (fun h32 => (by exfalso; omega)) (fun h32 => ?_)
          refine z_il4 eX12_worst_35 ?_
          refine z_al0 eX12_worst_37 hR.ne ?_
          refine z_il5 eX12_worst_38 ?_
          refine z_V1 eX12_worst_40 vX12_308 rfl rfl (Nat.le_of_ble_eq_true rfl) (Nat.le_of_ble_eq_true rfl) hR.x (m_X12_waits hR ⟨by omega, by omega⟩ (by rw [hS1]; exact ⟨by omega, by omega⟩)) ?_
          try rw [hS1]
          refine z_ifb_eq (tgt := 68) eX12_worst_43 rfl (fun h43 => ?_) (fun h43 => ?_)
          · refine z_iconst eX12_worst_68 ?_
            refine z_iadd eX12_worst_69 ?_
            refine z_is4 eX12_worst_70 (Nat.ne_of_beq_eq_false rfl) ?_
            refine z_ii5 eX12_worst_72 (Nat.ne_of_beq_eq_false rfl) ?_
            refine z_goto eX12_worst_75 (tgt := 24) rfl ?_
            first | (rw [if_pos ⟨h43, h61⟩] at ih2; exact ih2 s57 (hSc.trans hs57)) | (rw [if_neg (fun z => h61 z.2)] at ih2; exact ih2 s57 (hSc.trans hs57)) | (rw [if_neg (fun z => h43 z.1)] at ih2; exact ih2 S hSc) | fail
          · refine z_al0 eX12_worst_46 hR.ne ?_
            refine z_il5 eX12_worst_47 ?_
            refine z_il3 eX12_worst_49 ?_
            refine z_al0 eX12_worst_50 hR.ne ?_
            refine z_ra lX12_7 eX12_worst_51 rfl hR rfl ?_
            try rw [hS1]
            refine z_bipush eX12_worst_54 (by decide) ?_
            refine z_rl eX12_worst_56 hR (by decide) rfl rfl ⟨by omega, by omega⟩ ?_
            try rw [hS1]
            refine z_V3x eX12_worst_57 vX12_294 rfl rfl (Nat.le_of_ble_eq_true rfl) (Nat.le_of_ble_eq_true rfl) hR.x (m_X12_goesIn hR hS hSc.2.2 (by rw [hS1]; exact hM) ⟨by omega, by omega⟩ ⟨by omega, by omega⟩ ⟨by omega, by omega⟩) (fun s57 hs57 => ?_)
            try rw [hS1]
            refine z_iconst eX12_worst_60 ?_
            refine z_icmp_ne (tgt := 68) eX12_worst_61 rfl ⟨⟨by omega, by omega⟩, ⟨by omega, by omega⟩⟩ (fun h61 => ?_) (fun h61 => ?_)
            · refine z_iconst eX12_worst_68 ?_
              refine z_iadd eX12_worst_69 ?_
              refine z_is4 eX12_worst_70 (Nat.ne_of_beq_eq_false rfl) ?_
              refine z_ii5 eX12_worst_72 (Nat.ne_of_beq_eq_false rfl) ?_
              refine z_goto eX12_worst_75 (tgt := 24) rfl ?_
              first | (rw [if_pos ⟨h43, h61⟩] at ih2; exact ih2 s57 (hSc.trans hs57)) | (rw [if_neg (fun z => h61 z.2)] at ih2; exact ih2 s57 (hSc.trans hs57)) | (rw [if_neg (fun z => h43 z.1)] at ih2; exact ih2 S hSc) | fail
            · refine z_iconst eX12_worst_64 ?_
              refine z_goto eX12_worst_65 (tgt := 69) rfl ?_
              refine z_iadd eX12_worst_69 ?_
              refine z_is4 eX12_worst_70 (Nat.ne_of_beq_eq_false rfl) ?_
              refine z_ii5 eX12_worst_72 (Nat.ne_of_beq_eq_false rfl) ?_
              refine z_goto eX12_worst_75 (tgt := 24) rfl ?_
              first | (rw [if_pos ⟨h43, h61⟩] at ih2; exact ih2 s57 (hSc.trans hs57)) | (rw [if_neg (fun z => h61 z.2)] at ih2; exact ih2 s57 (hSc.trans hs57)) | (rw [if_neg (fun z => h43 z.1)] at ih2; exact ih2 S hSc) | fail
      refine z_il3 eX12_worst_13 ?_
      refine z_iconst eX12_worst_14 ?_
      refine z_icmp_ge (tgt := 98) eX12_worst_15 rfl ⟨⟨by omega, by omega⟩, ⟨by omega, by omega⟩⟩ (fun h15 => (by exfalso; omega)) (fun h15 => ?_)
      refine z_iconst eX12_worst_18 ?_
      refine z_is4 eX12_worst_19 (Nat.ne_of_beq_eq_false rfl) ?_
      refine z_iconst eX12_worst_21 ?_
      refine z_is5 eX12_worst_22 (Nat.ne_of_beq_eq_false rfl) ?_
      exact hin 0 (by decide) (by omega) S hSc
  refine z_al0 eX12_worst_0 hR.ne ?_
  refine z_iconst eX12_worst_1 ?_
  refine z_rp (j := 0) lX12_48 eX12_worst_2 rfl hR rfl rfl ?_
  refine z_iconst eX12_worst_5 ?_
  refine z_is1 eX12_worst_6 (Nat.ne_of_beq_eq_false rfl) ?_
  refine z_ldcw eX12_worst_7 kX12_360 ?_
  refine z_is2 eX12_worst_10 (Nat.ne_of_beq_eq_false rfl) ?_
  refine z_iconst eX12_worst_11 ?_
  refine z_is3 eX12_worst_12 (Nat.ne_of_beq_eq_false rfl) ?_
  exact hl 0 (by decide) (by decide) _ _ _ (Nat.ne_of_beq_eq_false rfl) (zScr.refl hJ1)
noncomputable def qBring (M : Int → Int) (k h : Int) : Int := if M (74 + 5 * k + 4) = 0 then qCar M k (h - M 6 + 1) * M (74 + 5 * k + 2) else 0
theorem m_X12_bringsIn {G : zG} {lay : zLay} {σ C0 : zMem} {nx x : Int} {k h : Int} (hR : RefL lay x) (hS : TxS lay C0) (hJ : zJs σ) (hM : zOL (σ 1)) (hk : 0 ≤ k ∧ k < 8) (hh : σ 1 6 ≤ h ∧ h < 12) : zMM G 69 KX12_bringsIn [zP x, zI k, zI h] lay (rC x σ C0) nx (0, 0) (zX' (some (zI (qBring (σ 1) k h))) (zScw σ) lay C0 nx x) := by
  refine z_met' (L := [zP x, zI k, zI h]) gX12_bringsIn.1 rfl rfl (Nat.le_of_ble_eq_true rfl) rfl ?_
  have hV := hM.1.1.V hk
  have h6 := hM.1.1.s 6 rfl (by omega)
  unfold qBring
  refine z_al0 eX12_bringsIn_0 hR.ne ?_
  refine z_il1 eX12_bringsIn_1 ?_
  refine z_V1 eX12_bringsIn_2 vX12_308 rfl rfl (Nat.le_of_ble_eq_true rfl) (Nat.le_of_ble_eq_true rfl) hR.x (m_X12_waits hR hk ⟨by omega, by omega⟩) ?_
  refine z_ifb_eq (tgt := 34) eX12_bringsIn_5 rfl (fun h5 => ?_) (fun h5 => ?_)
  · refine z_iconst eX12_bringsIn_34 ?_
    refine z_ireturn eX12_bringsIn_35 rfl ?_
    first | (rw [if_pos h5]; exact zXe hs21 rfl) | (rw [if_neg h5]; exact zXe (zScw.refl hJ) rfl)
  · refine z_al0 eX12_bringsIn_8 hR.ne ?_
    refine z_il1 eX12_bringsIn_9 ?_
    refine z_il2 eX12_bringsIn_10 ?_
    refine z_al0 eX12_bringsIn_11 hR.ne ?_
    refine z_ra lX12_7 eX12_bringsIn_12 rfl hR rfl ?_
    refine z_bipush eX12_bringsIn_15 (by decide) ?_
    refine z_rl eX12_bringsIn_17 hR (by decide) rfl rfl ⟨by omega, by omega⟩ ?_
    refine z_isub eX12_bringsIn_18 ?_
    refine z_iconst eX12_bringsIn_19 ?_
    refine z_iadd eX12_bringsIn_20 ?_
    refine z_V2x eX12_bringsIn_21 vX12_357 rfl rfl (Nat.le_of_ble_eq_true rfl) (Nat.le_of_ble_eq_true rfl) hR.x (m_X12_carriesIn hR hS hJ hM ⟨by omega, by omega⟩ ⟨by omega, by omega⟩) (fun s21 hs21 => ?_)
    refine z_al0 eX12_bringsIn_24 hR.ne ?_
    refine z_il1 eX12_bringsIn_25 ?_
    refine z_iconst eX12_bringsIn_26 ?_
    refine z_V2 eX12_bringsIn_27 vX12_55 rfl rfl (Nat.le_of_ble_eq_true rfl) (Nat.le_of_ble_eq_true rfl) hR.x (m_X12_ofMotion hR ⟨by omega, by omega⟩ (by decide)) ?_
    try rw [hs21.r1]
    refine z_imul eX12_bringsIn_30 ?_
    refine z_goto eX12_bringsIn_31 (tgt := 35) rfl ?_
    refine z_ireturn eX12_bringsIn_35 rfl ?_
    first | (rw [if_pos h5]; exact zXe hs21 rfl) | (rw [if_neg h5]; exact zXe (zScw.refl hJ) rfl)
