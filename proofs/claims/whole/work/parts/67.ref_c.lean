/-! Hours, what is felt, how it goes: asked. -/
/-- one bound, 1 if not kept -/
noncomputable def qThr1 (p : Prop) : Int := 1 - zbi p
theorem qThr1_t {p : Prop} (h : p) : qThr1 p = 0 := by unfold qThr1; rw [zbi_t h]; rfl
theorem qThr1_f {p : Prop} (h : ¬ p) : qThr1 p = 1 := by unfold qThr1; rw [zbi_f h]; rfl
theorem zScr.t {σ : zMem} (h : zJs σ) (v : Int) : zScr (zset σ 0 0 v) (zset σ 0 0 v) := zScr.refl (h.set (by decide) (fun _ => Or.inl rfl))
theorem zset_001 {σ : zMem} {v : Int} : zset σ 0 0 v 1 = σ 1 := zset_o (by decide)
theorem m_X12_felt {G : zG} {lay : zLay} {σ C0 : zMem} {nx x : Int} {p s k : Int} (hR : RefL lay x) (hS : TxS lay C0) (hJ : zJs σ) (hM : zOL (σ 1)) (hp : zin p) (hs : zin s) (hk : zin k) : zMM G 67 KX12_felt [zP x, zI p, zI s, zI k] lay (rC x σ C0) nx (0, 0) (zX' (some (zI (zif ((0 ≤ p ∧ p < σ 1 3) ∧ (0 ≤ s ∧ s < 5) ∧ (k = -1 ∨ 0 ≤ k ∧ k < σ 1 4)) (qFelt (σ 1) p s k (σ 1 6)) 0))) (zScr (zset σ 0 0 (qThr1 ((0 ≤ p ∧ p < σ 1 3) ∧ (0 ≤ s ∧ s < 5) ∧ (k = -1 ∨ 0 ≤ k ∧ k < σ 1 4))))) lay C0 nx x) := by
  refine z_met' (L := [zP x, zI p, zI s, zI k]) gX12_felt.1 rfl rfl (Nat.le_of_ble_eq_true rfl) rfl ?_
  obtain ⟨p1, p2⟩ := hp
  obtain ⟨s1, s2⟩ := hs
  obtain ⟨k1, k2⟩ := hk
  have hm3 := hM.1.1.m3
  have hm4 := hM.1.1.m4
  have h6 := hM.1.1.s 6 rfl (by omega)
  refine z_al0 eX12_felt_0 hR.ne ?_
  refine z_al0 eX12_felt_1 hR.ne ?_
  refine z_il1 eX12_felt_2 ?_
  refine z_V1 eX12_felt_3 vX12_317 rfl rfl (Nat.le_of_ble_eq_true rfl) (Nat.le_of_ble_eq_true rfl) hR.x (m_X12_isMember hR ⟨by omega, by omega⟩ hm3) ?_
  try rw [zset_001]
  refine z_ifb_eq (tgt := 29) eX12_felt_6 rfl (fun h6 => ?_) (fun h6 => ?_)
  · refine z_iconst eX12_felt_29 ?_
    refine z_goto eX12_felt_30 (tgt := 34) rfl ?_
    refine z_rp (j := 0) lX12_48 eX12_felt_34 rfl hR rfl rfl ?_
    refine z_al0 eX12_felt_37 hR.ne ?_
    refine z_rg (j := 0) lX12_48 eX12_felt_38 rfl hR rfl rfl ?_
    try rw [zset_001]
    rw [zset_eq]
    refine z_if_le (tgt := 48) eX12_felt_41 rfl ⟨by omega, by omega⟩ (fun h41 => (by exfalso; omega)) (fun h41 => ?_)
    refine z_iconst eX12_felt_44 ?_
    refine z_goto eX12_felt_45 (tgt := 62) rfl ?_
    refine z_ireturn eX12_felt_62 rfl ?_
    first | (rw [zif_t ⟨by omega, by omega, by omega⟩, qThr1_t ⟨by omega, by omega, by omega⟩]; exact zXe hs59 rfl) | (rw [zif_f (by omega), qThr1_f (by omega)]; exact zXe (zScr.t hJ _) rfl)
  · refine z_il2 eX12_felt_9 ?_
    refine z_S1 eX12_felt_10 vX12_329 rfl rfl (Nat.le_of_ble_eq_true rfl) (Nat.le_of_ble_eq_true rfl) (m_X12_isSky ⟨by omega, by omega⟩) ?_
    try rw [zset_001]
    refine z_ifb_eq (tgt := 29) eX12_felt_13 rfl (fun h13 => ?_) (fun h13 => ?_)
    · refine z_iconst eX12_felt_29 ?_
      refine z_goto eX12_felt_30 (tgt := 34) rfl ?_
      refine z_rp (j := 0) lX12_48 eX12_felt_34 rfl hR rfl rfl ?_
      refine z_al0 eX12_felt_37 hR.ne ?_
      refine z_rg (j := 0) lX12_48 eX12_felt_38 rfl hR rfl rfl ?_
      try rw [zset_001]
      rw [zset_eq]
      refine z_if_le (tgt := 48) eX12_felt_41 rfl ⟨by omega, by omega⟩ (fun h41 => (by exfalso; omega)) (fun h41 => ?_)
      refine z_iconst eX12_felt_44 ?_
      refine z_goto eX12_felt_45 (tgt := 62) rfl ?_
      refine z_ireturn eX12_felt_62 rfl ?_
      first | (rw [zif_t ⟨by omega, by omega, by omega⟩, qThr1_t ⟨by omega, by omega, by omega⟩]; exact zXe hs59 rfl) | (rw [zif_f (by omega), qThr1_f (by omega)]; exact zXe (zScr.t hJ _) rfl)
    · refine z_il3 eX12_felt_16 ?_
      refine z_iconst eX12_felt_17 ?_
      refine z_icmp_eq (tgt := 33) eX12_felt_18 rfl ⟨⟨by omega, by omega⟩, ⟨by omega, by omega⟩⟩ (fun h18 => ?_) (fun h18 => ?_)
      · refine z_iconst eX12_felt_33 ?_
        refine z_rp (j := 0) lX12_48 eX12_felt_34 rfl hR rfl rfl ?_
        refine z_al0 eX12_felt_37 hR.ne ?_
        refine z_rg (j := 0) lX12_48 eX12_felt_38 rfl hR rfl rfl ?_
        try rw [zset_001]
        rw [zset_eq]
        refine z_if_le (tgt := 48) eX12_felt_41 rfl ⟨by omega, by omega⟩ (fun h41 => ?_) (fun h41 => (by exfalso; omega))
        refine z_al0 eX12_felt_48 hR.ne ?_
        refine z_il1 eX12_felt_49 ?_
        refine z_il2 eX12_felt_50 ?_
        refine z_il3 eX12_felt_51 ?_
        refine z_al0 eX12_felt_52 hR.ne ?_
        refine z_ra lX12_7 eX12_felt_53 rfl hR rfl ?_
        try rw [zset_001]
        refine z_bipush eX12_felt_56 (by decide) ?_
        refine z_rl eX12_felt_58 hR (by decide) rfl rfl ⟨by omega, by omega⟩ ?_
        try rw [zset_001]
        refine z_V4x eX12_felt_59 vX12_286 rfl rfl (Nat.le_of_ble_eq_true rfl) (Nat.le_of_ble_eq_true rfl) hR.x (m_X12_feltBy hR hS (hJ.set (by decide) (fun _ => Or.inl rfl)) (by rw [zset_001]; exact hM) ⟨by omega, by omega⟩ ⟨by omega, by omega⟩ ⟨by omega, by omega⟩ ⟨by omega, by omega⟩) (fun s59 hs59 => ?_)
        try rw [zset_001]
        refine z_ireturn eX12_felt_62 rfl ?_
        first | (rw [zif_t ⟨by omega, by omega, by omega⟩, qThr1_t ⟨by omega, by omega, by omega⟩]; exact zXe hs59 rfl) | (rw [zif_f (by omega), qThr1_f (by omega)]; exact zXe (zScr.t hJ _) rfl)
      · refine z_al0 eX12_felt_21 hR.ne ?_
        refine z_il3 eX12_felt_22 ?_
        refine z_V1 eX12_felt_23 vX12_326 rfl rfl (Nat.le_of_ble_eq_true rfl) (Nat.le_of_ble_eq_true rfl) hR.x (m_X12_isMotion hR ⟨by omega, by omega⟩ hm4) ?_
        try rw [zset_001]
        refine z_ifb_ne (tgt := 33) eX12_felt_26 rfl (fun h26 => ?_) (fun h26 => ?_)
        · refine z_iconst eX12_felt_33 ?_
          refine z_rp (j := 0) lX12_48 eX12_felt_34 rfl hR rfl rfl ?_
          refine z_al0 eX12_felt_37 hR.ne ?_
          refine z_rg (j := 0) lX12_48 eX12_felt_38 rfl hR rfl rfl ?_
          try rw [zset_001]
          rw [zset_eq]
          refine z_if_le (tgt := 48) eX12_felt_41 rfl ⟨by omega, by omega⟩ (fun h41 => ?_) (fun h41 => (by exfalso; omega))
          refine z_al0 eX12_felt_48 hR.ne ?_
          refine z_il1 eX12_felt_49 ?_
          refine z_il2 eX12_felt_50 ?_
          refine z_il3 eX12_felt_51 ?_
          refine z_al0 eX12_felt_52 hR.ne ?_
          refine z_ra lX12_7 eX12_felt_53 rfl hR rfl ?_
          try rw [zset_001]
          refine z_bipush eX12_felt_56 (by decide) ?_
          refine z_rl eX12_felt_58 hR (by decide) rfl rfl ⟨by omega, by omega⟩ ?_
          try rw [zset_001]
          refine z_V4x eX12_felt_59 vX12_286 rfl rfl (Nat.le_of_ble_eq_true rfl) (Nat.le_of_ble_eq_true rfl) hR.x (m_X12_feltBy hR hS (hJ.set (by decide) (fun _ => Or.inl rfl)) (by rw [zset_001]; exact hM) ⟨by omega, by omega⟩ ⟨by omega, by omega⟩ ⟨by omega, by omega⟩ ⟨by omega, by omega⟩) (fun s59 hs59 => ?_)
          try rw [zset_001]
          refine z_ireturn eX12_felt_62 rfl ?_
          first | (rw [zif_t ⟨by omega, by omega, by omega⟩, qThr1_t ⟨by omega, by omega, by omega⟩]; exact zXe hs59 rfl) | (rw [zif_f (by omega), qThr1_f (by omega)]; exact zXe (zScr.t hJ _) rfl)
        · refine z_iconst eX12_felt_29 ?_
          refine z_goto eX12_felt_30 (tgt := 34) rfl ?_
          refine z_rp (j := 0) lX12_48 eX12_felt_34 rfl hR rfl rfl ?_
          refine z_al0 eX12_felt_37 hR.ne ?_
          refine z_rg (j := 0) lX12_48 eX12_felt_38 rfl hR rfl rfl ?_
          try rw [zset_001]
          rw [zset_eq]
          refine z_if_le (tgt := 48) eX12_felt_41 rfl ⟨by omega, by omega⟩ (fun h41 => (by exfalso; omega)) (fun h41 => ?_)
          refine z_iconst eX12_felt_44 ?_
          refine z_goto eX12_felt_45 (tgt := 62) rfl ?_
          refine z_ireturn eX12_felt_62 rfl ?_
          first | (rw [zif_t ⟨by omega, by omega, by omega⟩, qThr1_t ⟨by omega, by omega, by omega⟩]; exact zXe hs59 rfl) | (rw [zif_f (by omega), qThr1_f (by omega)]; exact zXe (zScr.t hJ _) rfl)
theorem m_X12_goes {G : zG} {lay : zLay} {σ C0 : zMem} {nx x : Int} {k s h : Int} (hR : RefL lay x) (hS : TxS lay C0) (hJ : zJs σ) (hM : zOL (σ 1)) (hk : zin k) (hs : zin s) (hh : zin h) : zMM G 68 KX12_goes [zP x, zI k, zI s, zI h] lay (rC x σ C0) nx (0, 0) (zX' (some (zI (zif ((0 ≤ k ∧ k < σ 1 4) ∧ (0 ≤ s ∧ s < 5) ∧ 0 ≤ h ∧ h < 12) (qGo (σ 1) k s h) 0))) (zScr (zset σ 0 0 (qThr1 ((0 ≤ k ∧ k < σ 1 4) ∧ (0 ≤ s ∧ s < 5) ∧ 0 ≤ h ∧ h < 12)))) lay C0 nx x) := by
  refine z_met' (L := [zP x, zI k, zI s, zI h]) gX12_goes.1 rfl rfl (Nat.le_of_ble_eq_true rfl) rfl ?_
  obtain ⟨h1, h2⟩ := hh
  obtain ⟨s1, s2⟩ := hs
  obtain ⟨k1, k2⟩ := hk
  have hm4 := hM.1.1.m4
  refine z_al0 eX12_goes_0 hR.ne ?_
  refine z_al0 eX12_goes_1 hR.ne ?_
  refine z_il1 eX12_goes_2 ?_
  refine z_V1 eX12_goes_3 vX12_326 rfl rfl (Nat.le_of_ble_eq_true rfl) (Nat.le_of_ble_eq_true rfl) hR.x (m_X12_isMotion hR ⟨by omega, by omega⟩ hm4) ?_
  try rw [zset_001]
  refine z_ifb_eq (tgt := 23) eX12_goes_6 rfl (fun h6 => ?_) (fun h6 => ?_)
  · refine z_iconst eX12_goes_23 ?_
    refine z_goto eX12_goes_24 (tgt := 28) rfl ?_
    refine z_rp (j := 0) lX12_48 eX12_goes_28 rfl hR rfl rfl ?_
    refine z_al0 eX12_goes_31 hR.ne ?_
    refine z_rg (j := 0) lX12_48 eX12_goes_32 rfl hR rfl rfl ?_
    try rw [zset_001]
    rw [zset_eq]
    refine z_if_le (tgt := 42) eX12_goes_35 rfl ⟨by omega, by omega⟩ (fun h35 => (by exfalso; omega)) (fun h35 => ?_)
    refine z_iconst eX12_goes_38 ?_
    refine z_goto eX12_goes_39 (tgt := 49) rfl ?_
    refine z_ireturn eX12_goes_49 rfl ?_
    first | (rw [zif_t ⟨by omega, by omega, by omega⟩, qThr1_t ⟨by omega, by omega, by omega⟩]; exact zXe hs46 rfl) | (rw [zif_f (by omega), qThr1_f (by omega)]; exact zXe (zScr.t hJ _) rfl)
  · refine z_il2 eX12_goes_9 ?_
    refine z_S1 eX12_goes_10 vX12_329 rfl rfl (Nat.le_of_ble_eq_true rfl) (Nat.le_of_ble_eq_true rfl) (m_X12_isSky ⟨by omega, by omega⟩) ?_
    try rw [zset_001]
    refine z_ifb_eq (tgt := 23) eX12_goes_13 rfl (fun h13 => ?_) (fun h13 => ?_)
    · refine z_iconst eX12_goes_23 ?_
      refine z_goto eX12_goes_24 (tgt := 28) rfl ?_
      refine z_rp (j := 0) lX12_48 eX12_goes_28 rfl hR rfl rfl ?_
      refine z_al0 eX12_goes_31 hR.ne ?_
      refine z_rg (j := 0) lX12_48 eX12_goes_32 rfl hR rfl rfl ?_
      try rw [zset_001]
      rw [zset_eq]
      refine z_if_le (tgt := 42) eX12_goes_35 rfl ⟨by omega, by omega⟩ (fun h35 => (by exfalso; omega)) (fun h35 => ?_)
      refine z_iconst eX12_goes_38 ?_
      refine z_goto eX12_goes_39 (tgt := 49) rfl ?_
      refine z_ireturn eX12_goes_49 rfl ?_
      first | (rw [zif_t ⟨by omega, by omega, by omega⟩, qThr1_t ⟨by omega, by omega, by omega⟩]; exact zXe hs46 rfl) | (rw [zif_f (by omega), qThr1_f (by omega)]; exact zXe (zScr.t hJ _) rfl)
    · refine z_il3 eX12_goes_16 ?_
      refine z_S1 eX12_goes_17 vX12_332 rfl rfl (Nat.le_of_ble_eq_true rfl) (Nat.le_of_ble_eq_true rfl) (m_X12_isHour ⟨by omega, by omega⟩) ?_
      try rw [zset_001]
      refine z_ifb_ne (tgt := 27) eX12_goes_20 rfl (fun h20 => ?_) (fun h20 => ?_)
      · refine z_iconst eX12_goes_27 ?_
        refine z_rp (j := 0) lX12_48 eX12_goes_28 rfl hR rfl rfl ?_
        refine z_al0 eX12_goes_31 hR.ne ?_
        refine z_rg (j := 0) lX12_48 eX12_goes_32 rfl hR rfl rfl ?_
        try rw [zset_001]
        rw [zset_eq]
        refine z_if_le (tgt := 42) eX12_goes_35 rfl ⟨by omega, by omega⟩ (fun h35 => ?_) (fun h35 => (by exfalso; omega))
        refine z_al0 eX12_goes_42 hR.ne ?_
        refine z_il1 eX12_goes_43 ?_
        refine z_il2 eX12_goes_44 ?_
        refine z_il3 eX12_goes_45 ?_
        refine z_V3x eX12_goes_46 vX12_294 rfl rfl (Nat.le_of_ble_eq_true rfl) (Nat.le_of_ble_eq_true rfl) hR.x (m_X12_goesIn hR hS (hJ.set (by decide) (fun _ => Or.inl rfl)) (by rw [zset_001]; exact hM) ⟨by omega, by omega⟩ ⟨by omega, by omega⟩ ⟨by omega, by omega⟩) (fun s46 hs46 => ?_)
        try rw [zset_001]
        refine z_ireturn eX12_goes_49 rfl ?_
        first | (rw [zif_t ⟨by omega, by omega, by omega⟩, qThr1_t ⟨by omega, by omega, by omega⟩]; exact zXe hs46 rfl) | (rw [zif_f (by omega), qThr1_f (by omega)]; exact zXe (zScr.t hJ _) rfl)
      · refine z_iconst eX12_goes_23 ?_
        refine z_goto eX12_goes_24 (tgt := 28) rfl ?_
        refine z_rp (j := 0) lX12_48 eX12_goes_28 rfl hR rfl rfl ?_
        refine z_al0 eX12_goes_31 hR.ne ?_
        refine z_rg (j := 0) lX12_48 eX12_goes_32 rfl hR rfl rfl ?_
        try rw [zset_001]
        rw [zset_eq]
        refine z_if_le (tgt := 42) eX12_goes_35 rfl ⟨by omega, by omega⟩ (fun h35 => (by exfalso; omega)) (fun h35 => ?_)
        refine z_iconst eX12_goes_38 ?_
        refine z_goto eX12_goes_39 (tgt := 49) rfl ?_
        refine z_ireturn eX12_goes_49 rfl ?_
        first | (rw [zif_t ⟨by omega, by omega, by omega⟩, qThr1_t ⟨by omega, by omega, by omega⟩]; exact zXe hs46 rfl) | (rw [zif_f (by omega), qThr1_f (by omega)]; exact zXe (zScr.t hJ _) rfl)
theorem m_X12_hours {G : zG} {lay : zLay} {σ C0 : zMem} {nx x : Int} {n : Int} (hR : RefL lay x) (hS : TxS lay C0) (hJ : zJs σ) (hM : zOL (σ 1)) (hn : zin n) (ha : 0 ≤ σ 0 6 ∧ σ 0 6 ≤ 12) : zMM G 70 KX12_hours [zP x, zI n] lay (rC x σ C0) nx (0, 0) (zX' (some (zI (if 1 ≤ n ∧ n ≤ 60 then (qPassN (σ 1) n).2.2 else 0))) (zScr (if 1 ≤ n ∧ n ≤ 60 then zM (zset (qRem (zset σ 0 0 0)) 0 25 (qPassN (σ 1) n).2.1) (qPassN (σ 1) n).1 else zset σ 0 0 1)) lay C0 nx x) := by
  refine z_met' (L := [zP x, zI n]) gX12_hours.1 rfl rfl (Nat.le_of_ble_eq_true rfl) rfl ?_
  obtain ⟨n1, n2⟩ := hn
  have e6 : zset σ 0 0 0 0 6 = σ 0 6 := zset_f (by decide)
  have e1 : qRem (zset σ 0 0 0) 1 = σ 1 := by rw [qRem_1, zset_001]
  have hJ1 : zJs (zset σ 0 0 0) := hJ.set (by decide) (fun _ => Or.inl rfl)
  have hJ2 : zJs (qRem (zset σ 0 0 0)) := by
    have hq : ∀ τ : zMem, zJs τ → zJs (qRem1 τ) := by
      intro τ h
      unfold qRem1
      split
      · exact zJs.set (σ := zRow τ 4 (qshift (τ 4) 4686)) h (by decide) (fun _ => by unfold zNs; omega)
      · exact h
    exact zJs.set (σ := zRow (qRem1 (zset σ 0 0 0)) 4 _) (hq _ hJ1) (by decide) (fun _ => by unfold zNs; omega)
  refine z_al0 eX12_hours_0 hR.ne ?_
  refine z_il1 eX12_hours_1 ?_
  refine z_iconst eX12_hours_2 ?_
  refine z_bipush eX12_hours_3 (by decide) ?_
  refine z_S3 eX12_hours_5 vX12_51 rfl rfl (Nat.le_of_ble_eq_true rfl) (Nat.le_of_ble_eq_true rfl) (m_X12_isIn (by refine ⟨?_, ?_, ?_⟩ <;> first | omega | decide | assumption)) ?_
  refine z_ifb_ne (tgt := 15) eX12_hours_8 rfl (fun h8 => ?_) (fun h8 => ?_)
  · refine z_iconst eX12_hours_15 ?_
    refine z_rp (j := 0) lX12_48 eX12_hours_16 rfl hR rfl rfl ?_
    refine z_al0 eX12_hours_19 hR.ne ?_
    refine z_rg (j := 0) lX12_48 eX12_hours_20 rfl hR rfl rfl ?_
    rw [zset_eq]
    refine z_if_le (tgt := 28) eX12_hours_23 rfl ⟨by omega, by omega⟩ (fun h23 => ?_) (fun h23 => (by exfalso; omega))
    refine z_al0 eX12_hours_28 hR.ne ?_
    refine z_V0v eX12_hours_29 vX12_335 rfl rfl (Nat.le_of_ble_eq_true rfl) (Nat.le_of_ble_eq_true rfl) hR.x (m_X12_remembers hR (by rw [e6]; exact ha)) ?_
    refine z_al0 eX12_hours_32 hR.ne ?_
    refine z_il1 eX12_hours_33 ?_
    refine z_V1x eX12_hours_34 vX12_338 rfl rfl (Nat.le_of_ble_eq_true rfl) (Nat.le_of_ble_eq_true rfl) hR.x (m_X12_passesOn hR hS hJ2 (by rw [e1]; exact hM) ⟨by omega, by omega⟩) (fun s34 hs34 => ?_)
    rw [e1] at hs34
    rw [e1]
    refine z_ireturn eX12_hours_37 rfl ?_
    rw [if_pos (by omega), if_pos (by omega)]; exact zXe hs34 rfl
  · refine z_iconst eX12_hours_11 ?_
    refine z_goto eX12_hours_12 (tgt := 16) rfl ?_
    refine z_rp (j := 0) lX12_48 eX12_hours_16 rfl hR rfl rfl ?_
    refine z_al0 eX12_hours_19 hR.ne ?_
    refine z_rg (j := 0) lX12_48 eX12_hours_20 rfl hR rfl rfl ?_
    rw [zset_eq]
    refine z_if_le (tgt := 28) eX12_hours_23 rfl ⟨by omega, by omega⟩ (fun h23 => (by exfalso; omega)) (fun h23 => ?_)
    refine z_iconst eX12_hours_26 ?_
    refine z_ireturn eX12_hours_27 rfl ?_
    rw [if_neg (by omega), if_neg (by omega)]; exact zXe (zScr.t hJ _) rfl
