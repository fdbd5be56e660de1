/-! Cuffs. -/
theorem qWetS_B (M : Int → Int) (p : Int) {s : Int} (hs : 0 ≤ s ∧ s < 5) : zbit (qWetS M p 5) s = 1 ↔ 0 < qFelt M p s (-1) (M 6) := by
  rw [zbit_B1 hs.1 (by omega)]
  unfold qWetS
  rw [zB_zors _ (by decide)]
  constructor
  · rintro ⟨t, ⟨t0, t1⟩, h⟩
    by_cases e : 0 < qFelt M p t (-1) (M 6)
    · rw [if_pos e, zB_shl1 t0 (by omega) (by omega), decide_eq_true_iff, Int.toNat_of_nonneg hs.1] at h
      rw [h]; exact e
    · rw [if_neg e, zB_0] at h; cases h
  · intro h
    exact ⟨s, hs, by rw [if_pos h, zB_shl1 hs.1 (by omega) (by omega), decide_eq_true_iff, Int.toNat_of_nonneg hs.1]⟩
theorem zbit_31 : ∀ i : Nat, i < 5 → zbit 31 (i : Nat) = 1 := by decide +kernel
theorem c_X2_readRows {G : zG} {lay : zLay} {σ C0 : zMem} {nx x b : Int} (hT : TopL lay x) {n : Int} {M : Int → Int} (hB : CoAt b) (hd : b + 18 ≤ 303) (hR : CoR lay x C0 σ b M) (hM : zOC M) (hn : 0 ≤ n ∧ n ≤ 400) (hT9 : ∀ k, 0 ≤ k → k < 400 → 0 ≤ σ 1 k ∧ σ 1 k ≤ 255) (hb1 : 2 ≤ b) : zMM G 6 KX2_readRows [zP (x + 303), zP (x + (0 + 1)), zI n, zP (x + b)] lay (tC x σ C0) nx (0, 0) (zY' (some (zI (zbi (qCuffs (σ 1) M n)))) (fun q C => (∀ i, i ≠ 304 → i ≠ b + 17 → q i = σ i) ∧ zStk C0 (σ b 10) C ∧ (qCuffs (σ 1) M n → ∀ h s, 0 ≤ h → h < 12 → 0 ≤ s → s < 5 → (zbit (q 304 h) s = 1 ↔ qFit (σ 1) M n h s))) lay nx x) := by
  refine z_met' (L := [zP (x + 303), zP (x + (0 + 1)), zI n, zP (x + b), zU, zU, zU, zU, zU]) gX2_readRows.1 rfl rfl (Nat.le_of_ble_eq_true rfl) rfl ?_
  have hA := CuAt
  have hx := hT.1
  have hne : x + 303 ≠ -1 := by omega
  have hI := hM.I
  have hm3 := hI.m3
  obtain ⟨Q, hQ⟩ : ∃ Q, zY' (some (zI (zbi (qCuffs (σ 1) M n)))) (fun q C => (∀ i, i ≠ 304 → i ≠ b + 17 → q i = σ i) ∧ zStk C0 (σ b 10) C ∧ (qCuffs (σ 1) M n → ∀ h s, 0 ≤ h → h < 12 → 0 ≤ s → s < 5 → (zbit (q 304 h) s = 1 ↔ qFit (σ 1) M n h s))) lay nx x = Q := ⟨_, rfl⟩
  have hl : n % 3 = 0 ∧ n ≤ 45 → ∀ t : Int, 0 ≤ t → t ≤ n / 3 → ∀ (S C : zMem) (y5 y6 y7 y8 : zAV), (∀ i, i ≠ 304 → i ≠ b + 17 → S i = σ i) → zStk C0 (σ b 10) C → (∀ j, 0 ≤ j → j < t → σ 1 (3 * j) < 12 ∧ σ 1 (3 * j + 1) < M 3 ∧ σ 1 (3 * j + 2) < 2) → (∀ h s, 0 ≤ h → h < 12 → 0 ≤ s → s < 5 → (zbit (S 304 h) s = 1 ↔ ∀ j, 0 ≤ j → j < t → qFit1 (σ 1) M h s j)) → zW G KX2_readRows 6 Q 36 [zP (x + 303), zP (x + (0 + 1)), zI n, zP (x + b), zI (3 * t), y5, y6, y7, y8] [] lay (tC x S C) nx (0, 0) := by
    intro hn3
    refine z_up (n / 3) ?_ ?_
    · intro S C y5 y6 y7 y8 hS hC hv hf
      subst hQ
      have hc : qCuffs (σ 1) M n := ⟨hn3, fun j j0 j1 => hv j j0 (by omega)⟩
      refine z_il4 eX2_readRows_36 ?_
      refine z_iconst eX2_readRows_38 ?_
      refine z_iadd eX2_readRows_39 ?_
      refine z_il2 eX2_readRows_40 ?_
      refine z_icmp_ge (tgt := 139) eX2_readRows_41 rfl ⟨⟨by omega, by omega⟩, ⟨by omega, by omega⟩⟩ (fun h41 => ?_) (fun h41 => (by exfalso; omega))
      refine z_iconst eX2_readRows_139 ?_
      refine z_zreturn eX2_readRows_140 rfl (by first | exact Or.inl rfl | exact Or.inr rfl | exact zbi_01 _ | assumption | omega) ?_
      refine zYe ⟨hS, hC, fun _ h s h0 h1 s0 s1 => ?_⟩ (by rw [zbi_t hc])
      rw [hf h s h0 h1 s0 s1]
      exact ⟨fun z j j0 j1 => z j j0 (by omega), fun z j j0 j1 => z j j0 (by omega)⟩
    · intro t t0 t1 ih S C y5 y6 y7 y8 hS hC hv hf
      have b0 := hT9 (3 * t) (by omega) (by omega)
      have b1 := hT9 (3 * t + 1) (by omega) (by omega)
      have b2 := hT9 (3 * t + 2) (by omega) (by omega)
      have e1 : S 1 = σ 1 := hS 1 (by decide) (by omega)
      have hN : CoN S b M := hR.1.out (fun i i0 i1 _ _ => hS _ (by omega) (by omega))
      have eb : S b = σ b := hS b (by omega) (by omega)
      have hR' : CoR lay x C S b M := ⟨hN, by rw [eb]; exact hR.2.cg' hC⟩
      have hbad : ¬ (σ 1 (3 * t) < 12 ∧ σ 1 (3 * t + 1) < M 3 ∧ σ 1 (3 * t + 2) < 2) → Q (.inl (some (zI 0))) lay (tC x S C) nx := by
        intro z
        subst hQ
        have hc : ¬ qCuffs (σ 1) M n := fun q => z (q.2 t t0 (by omega))
        exact zYe ⟨hS, hC, fun q => absurd q hc⟩ (by rw [zbi_f hc])
      have hrec : (σ 1 (3 * t) < 12 ∧ σ 1 (3 * t + 1) < M 3 ∧ σ 1 (3 * t + 2) < 2) → ∀ (S2 C2 : zMem) (v : Int) (y5 y6 y7 y8 : zAV), zFc b S C S2 C2 → (∀ s, 0 ≤ s → s < 5 → (zbit v s = 1 ↔ (0 < qFelt M (σ 1 (3 * t + 1)) s (-1) (M 6) ↔ σ 1 (3 * t + 2) = 1))) → zW G KX2_readRows 6 Q 36 [zP (x + 303), zP (x + (0 + 1)), zI n, zP (x + b), zI (3 * t + 3), y5, y6, y7, y8] [] lay (tC x (zset S2 304 (σ 1 (3 * t)) (zand (S2 304 (σ 1 (3 * t))) v)) C2) nx (0, 0) := by
        intro hok S2 C2 v y5 y6 y7 y8 hF hv2
        have := ih (zset S2 304 (σ 1 (3 * t)) (zand (S2 304 (σ 1 (3 * t))) v)) C2 y5 y6 y7 y8 (fun i i1 i2 => by rw [zset_o i1, hF.1 i (by omega)]; exact hS i i1 i2) (hC.trans (by have := hF.2; rwa [eb] at this)) (fun j j0 j1 => by
          by_cases e : j = t
          · rw [e]; exact hok
          · exact hv j j0 (by omega)) (fun h s h0 h1 s0 s1 => by
          have h9 : S2 304 = S 304 := hF.1 304 (by omega)
          rw [zset_at, h9]
          have hfs := hf h s h0 h1 s0 s1
          by_cases e : h = σ 1 (3 * t)
          · rw [if_pos ⟨rfl, e⟩, zbit_and ⟨s0, by omega⟩, hv2 s s0 s1, ← e, hfs]
            constructor
            · rintro ⟨z1, z2⟩ j j0 j1
              by_cases ej : j = t
              · rw [ej]; exact Or.inr z2
              · exact z1 j j0 (by omega)
            · intro z
              exact ⟨fun j j0 j1 => z j j0 (by omega), (z t t0 (by omega)).resolve_left (fun q => q e.symm)⟩
          · rw [if_neg (fun z => e z.2), hfs]
            constructor
            · intro z j j0 j1
              by_cases ej : j = t
              · rw [ej]; exact Or.inl (fun q => e q.symm)
              · exact z j j0 (by omega)
            · exact fun z j j0 j1 => z j j0 (by omega))
        rwa [show 3 * (t + 1) = 3 * t + 3 by omega] at this
      refine z_il4 eX2_readRows_36 ?_
      refine z_iconst eX2_readRows_38 ?_
      refine z_iadd eX2_readRows_39 ?_
      refine z_il2 eX2_readRows_40 ?_
      refine z_icmp_ge (tgt := 139) eX2_readRows_41 rfl ⟨⟨by omega, by omega⟩, ⟨by omega, by omega⟩⟩ (fun h41 => (by exfalso; omega)) (fun h41 => ?_)
      refine z_al1 eX2_readRows_44 (by omega) ?_
      refine z_il4 eX2_readRows_45 ?_
      refine z_tl eX2_readRows_47 hT TpAt ⟨by decide, by decide⟩ rfl rfl ⟨by omega, by omega⟩ ?_
      rw [show S (0 + 1) (3 * t) = σ 1 (3 * t) from congrFun e1 _]
      refine z_is5 eX2_readRows_48 (Nat.ne_of_beq_eq_false rfl) ?_
      refine z_al1 eX2_readRows_50 (by omega) ?_
      refine z_il4 eX2_readRows_51 ?_
      refine z_iconst eX2_readRows_53 ?_
      refine z_iadd eX2_readRows_54 ?_
      refine z_tl eX2_readRows_55 hT TpAt ⟨by decide, by decide⟩ rfl rfl ⟨by omega, by omega⟩ ?_
      rw [show S (0 + 1) (3 * t + 1) = σ 1 (3 * t + 1) from congrFun e1 _]
      refine z_is6 eX2_readRows_56 (Nat.ne_of_beq_eq_false rfl) ?_
      refine z_al1 eX2_readRows_58 (by omega) ?_
      refine z_il4 eX2_readRows_59 ?_
      refine z_iconst eX2_readRows_61 ?_
      refine z_iadd eX2_readRows_62 ?_
      refine z_tl eX2_readRows_63 hT TpAt ⟨by decide, by decide⟩ rfl rfl ⟨by omega, by omega⟩ ?_
      rw [show S (0 + 1) (3 * t + 2) = σ 1 (3 * t + 2) from congrFun e1 _]
      refine z_is7 eX2_readRows_64 (Nat.ne_of_beq_eq_false rfl) ?_
      refine z_il5 eX2_readRows_66 ?_
      refine z_if_lt (tgt := 98) eX2_readRows_68 rfl ⟨by omega, by omega⟩ (fun h68 => (by exfalso; omega)) (fun h68 => ?_)
      refine z_il5 eX2_readRows_71 ?_
      refine z_bipush eX2_readRows_73 (by decide) ?_
      refine z_icmp_ge (tgt := 98) eX2_readRows_75 rfl ⟨⟨by omega, by omega⟩, ⟨by omega, by omega⟩⟩ (fun h75 => ?_) (fun h75 => ?_)
      · refine z_iconst eX2_readRows_98 ?_
        refine z_zreturn eX2_readRows_99 rfl (by first | exact Or.inl rfl | exact Or.inr rfl | exact zbi_01 _ | assumption | omega) ?_
        exact hbad (by omega)
      · refine z_il6 eX2_readRows_78 ?_
        refine z_if_lt (tgt := 98) eX2_readRows_80 rfl ⟨by omega, by omega⟩ (fun h80 => (by exfalso; omega)) (fun h80 => ?_)
        refine z_il6 eX2_readRows_83 ?_
        refine z_al3 eX2_readRows_85 (by omega) ?_
        first | refine z_tg0 (j := 1) lX2_27 eX2_readRows_86 rfl hT hB (by decide) rfl rfl rfl ?_ | refine z_tg (j := 1) lX2_27 eX2_readRows_86 rfl hT hB ⟨by decide, by decide⟩ rfl rfl rfl ?_
        rw [hN.n3]
        refine z_icmp_ge (tgt := 98) eX2_readRows_89 rfl ⟨⟨by omega, by omega⟩, ⟨by omega, by omega⟩⟩ (fun h89 => ?_) (fun h89 => ?_)
        · refine z_iconst eX2_readRows_98 ?_
          refine z_zreturn eX2_readRows_99 rfl (by first | exact Or.inl rfl | exact Or.inr rfl | exact zbi_01 _ | assumption | omega) ?_
          exact hbad (by omega)
        · refine z_il7 eX2_readRows_92 ?_
          refine z_iconst eX2_readRows_94 ?_
          refine z_icmp_le (tgt := 100) eX2_readRows_95 rfl ⟨⟨by omega, by omega⟩, ⟨by omega, by omega⟩⟩ (fun h95 => ?_) (fun h95 => ?_)
          · refine z_al3 eX2_readRows_100 (by omega) ?_
            refine z_il6 eX2_readRows_101 ?_
            refine z_V1y eX2_readRows_103 vX2_33 rfl rfl (Nat.le_of_ble_eq_true rfl) (Nat.le_of_ble_eq_true rfl) ((hB).L0 hT (by decide)) (c_X1_wettingSkies hT hB hR' hM ⟨by omega, by omega⟩) (fun s103 C103 hs103 => ?_)
            refine z_is8 eX2_readRows_106 (Nat.ne_of_beq_eq_false rfl) ?_
            refine z_al0 eX2_readRows_108 hne ?_
            first | refine z_ta0 lX2_9 eX2_readRows_109 rfl hT hA (by decide) rfl rfl ?_ | refine z_ta lX2_9 eX2_readRows_109 rfl hT hA ⟨by decide, by decide⟩ rfl rfl ?_
            refine z_il5 eX2_readRows_112 ?_
            refine z_dup2 eX2_readRows_114 (Nat.ne_of_beq_eq_false rfl) (Nat.ne_of_beq_eq_false rfl) ?_
            refine z_tl eX2_readRows_115 hT hA ⟨by decide, by decide⟩ rfl rfl ⟨by omega, by omega⟩ ?_
            refine z_il7 eX2_readRows_116 ?_
            refine z_iconst eX2_readRows_118 ?_
            refine z_icmp_ne (tgt := 127) eX2_readRows_119 rfl ⟨⟨by omega, by omega⟩, ⟨by omega, by omega⟩⟩ (fun h119 => ?_) (fun h119 => ?_)
            · refine z_il8 eX2_readRows_127 ?_
              refine z_iconst eX2_readRows_129 ?_
              refine z_ixor eX2_readRows_130 ?_
              refine z_iand eX2_readRows_131 ?_
              refine z_ts eX2_readRows_132 hT hA ⟨by decide, by decide⟩ rfl rfl ⟨by omega, by omega⟩ ?_
              refine z_ii4 eX2_readRows_133 (Nat.ne_of_beq_eq_false rfl) ?_
              refine z_goto eX2_readRows_136 (tgt := 36) rfl ?_
              first | exact hrec ⟨by omega, by omega, by omega⟩ s103 C103 _ _ _ _ _ hs103 (fun s s0 s1 => by rw [qWetS_B M _ ⟨s0, s1⟩]; constructor; exact fun z => ⟨fun _ => by omega, fun _ => z⟩; exact fun z => z.mpr (by omega)) | exact hrec ⟨by omega, by omega, by omega⟩ s103 C103 _ _ _ _ _ hs103 (fun s s0 s1 => by rw [zbit_not ⟨s0, by omega⟩, qWetS_B M _ ⟨s0, s1⟩]; constructor; exact fun z => ⟨fun q => absurd q z, fun q => by omega⟩; exact fun z q => by have := z.mp q; omega) | fail
            · refine z_il8 eX2_readRows_122 ?_
              refine z_goto eX2_readRows_124 (tgt := 131) rfl ?_
              refine z_iand eX2_readRows_131 ?_
              refine z_ts eX2_readRows_132 hT hA ⟨by decide, by decide⟩ rfl rfl ⟨by omega, by omega⟩ ?_
              refine z_ii4 eX2_readRows_133 (Nat.ne_of_beq_eq_false rfl) ?_
              refine z_goto eX2_readRows_136 (tgt := 36) rfl ?_
              first | exact hrec ⟨by omega, by omega, by omega⟩ s103 C103 _ _ _ _ _ hs103 (fun s s0 s1 => by rw [qWetS_B M _ ⟨s0, s1⟩]; constructor; exact fun z => ⟨fun _ => by omega, fun _ => z⟩; exact fun z => z.mpr (by omega)) | exact hrec ⟨by omega, by omega, by omega⟩ s103 C103 _ _ _ _ _ hs103 (fun s s0 s1 => by rw [zbit_not ⟨s0, by omega⟩, qWetS_B M _ ⟨s0, s1⟩]; constructor; exact fun z => ⟨fun q => absurd q z, fun q => by omega⟩; exact fun z q => by have := z.mp q; omega) | fail
          · refine z_iconst eX2_readRows_98 ?_
            refine z_zreturn eX2_readRows_99 rfl (by first | exact Or.inl rfl | exact Or.inr rfl | exact zbi_01 _ | assumption | omega) ?_
            exact hbad (by omega)
  have h0 : ∀ h s, 0 ≤ h → h < 12 → 0 ≤ s → s < 5 → (zbit (zfil σ (303 + 1) 12 31 304 h) s = 1 ↔ ∀ j, 0 ≤ j → j < 0 → qFit1 (σ 1) M h s j) := by
    intro h s h0 h1 s0 s1
    have := zbit_31 s.toNat (by omega)
    rw [Int.toNat_of_nonneg s0] at this
    unfold zfil
    rw [if_pos ⟨rfl, h0, h1⟩]
    exact ⟨fun _ j j0 j1 => by omega, fun _ => this⟩
  have hS0 : ∀ i, i ≠ 304 → i ≠ b + 17 → zfil σ (303 + 1) 12 31 i = σ i := fun i i1 i2 => by funext j; unfold zfil; rw [if_neg (by omega)]
  have hno : ¬ (n % 3 = 0 ∧ n ≤ 45) → Q (.inl (some (zI 0))) lay (tC x (zfil σ (303 + 1) 12 31) C0) nx := by
    intro z
    subst hQ
    exact zYe ⟨hS0, zStk.refl _ _, fun q => absurd q.1 z⟩ (by rw [zbi_f (fun q => z q.1)])
  rw [hQ]
  refine z_al0 eX2_readRows_0 hne ?_
  first | refine z_ta0 lX2_9 eX2_readRows_1 rfl hT hA (by decide) rfl rfl ?_ | refine z_ta lX2_9 eX2_readRows_1 rfl hT hA ⟨by decide, by decide⟩ rfl rfl ?_
  refine z_bipush eX2_readRows_4 (by decide) ?_
  refine z_S2v eX2_readRows_6 vX2_21 rfl rfl (Nat.le_of_ble_eq_true rfl) (Nat.le_of_ble_eq_true rfl) (c_J7_fill_53178 (by omega) (hA.LL hT ⟨by decide, by decide⟩) ⟨by decide, by decide⟩) ?_
  rw [tC_fil (hA.1 _ (by decide) (by decide)) (fun _ => hA.nn ⟨by decide, by decide⟩ rfl)]
  refine z_il2 eX2_readRows_9 ?_
  refine z_if_lt (tgt := 31) eX2_readRows_10 rfl ⟨by omega, by omega⟩ (fun h10 => (by exfalso; omega)) (fun h10 => ?_)
  refine z_il2 eX2_readRows_13 ?_
  refine z_bipush eX2_readRows_14 (by decide) ?_
  refine z_icmp_gt (tgt := 31) eX2_readRows_16 rfl ⟨⟨by omega, by omega⟩, ⟨by omega, by omega⟩⟩ (fun h16 => ?_) (fun h16 => ?_)
  · refine z_iconst eX2_readRows_31 ?_
    refine z_zreturn eX2_readRows_32 rfl (by first | exact Or.inl rfl | exact Or.inr rfl | exact zbi_01 _ | assumption | omega) ?_
    exact hno (by omega)
  · refine z_il2 eX2_readRows_19 ?_
    refine z_al1 eX2_readRows_20 (by omega) ?_
    refine z_tn eX2_readRows_21 hT TpAt ⟨by decide, by decide⟩ rfl ?_
    refine z_icmp_gt (tgt := 31) eX2_readRows_22 rfl ⟨⟨by omega, by omega⟩, ⟨by omega, by omega⟩⟩ (fun h22 => (by exfalso; omega)) (fun h22 => ?_)
    refine z_il2 eX2_readRows_25 ?_
    refine z_iconst eX2_readRows_26 ?_
    refine z_irem eX2_readRows_27 ⟨by omega, by omega, by omega, by omega⟩ ?_
    refine z_if_eq (tgt := 33) eX2_readRows_28 rfl ⟨by omega, by omega⟩ (fun h28 => ?_) (fun h28 => ?_)
    · refine z_iconst eX2_readRows_33 ?_
      refine z_is4 eX2_readRows_34 (Nat.ne_of_beq_eq_false rfl) ?_
      exact hl ⟨by omega, by omega⟩ 0 (by decide) (by omega) _ _ _ _ _ _ hS0 (zStk.refl _ _) (fun j j0 j1 => by omega) h0
    · refine z_iconst eX2_readRows_31 ?_
      refine z_zreturn eX2_readRows_32 rfl (by first | exact Or.inl rfl | exact Or.inr rfl | exact zbi_01 _ | assumption | omega) ?_
      exact hno (by omega)
