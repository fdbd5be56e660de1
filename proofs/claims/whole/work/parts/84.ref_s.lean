/-! Posts: members and places. -/
noncomputable def qPoK (M : Int → Int) (p : Int) (T : Int → Int) (set k cur : Int) : Int := if zbit set k = 1 ∨ T (zor set (zshl 1 k)) = -1 then cur else qGr cur (T (zor set (zshl 1 k)) + M (38 + k) * M (46 + 4 * p + 1))
/-- what the n last members bring, a set of places being taken -/
noncomputable def qPo (M : Int → Int) : Nat → Int → Int
  | 0, _ => 0
  | n + 1, set => zfold (qPoK M (M 3 - (n + 1)) (qPo M n) set) (-1) 8
theorem qPo_s (M : Int → Int) (n : Nat) (set : Int) : qPo M (n + 1) set = zfold (qPoK M (M 3 - (n + 1)) (qPo M n) set) (-1) 8 := rfl
theorem qPoF_bd {M : Int → Int} (hM : zOK M) {p c : Int} (hp : 0 ≤ p ∧ p < 7) (hc : 0 ≤ c) {T : Int → Int} (hT : ∀ set, -1 ≤ T set ∧ T set ≤ c) (set : Int) {n : Int} (hn : 0 ≤ n ∧ n ≤ 8) : -1 ≤ zfold (qPoK M p T set) (-1) n ∧ zfold (qPoK M p T set) (-1) n ≤ 180 + c := by
  have hU := hM.1.U hp
  have : n ≤ 8 → -1 ≤ zfold (qPoK M p T set) (-1) n ∧ zfold (qPoK M p T set) (-1) n ≤ 180 + c := zfold_P (f := qPoK M p T set) (P := fun k r => k ≤ 8 → -1 ≤ r ∧ r ≤ 180 + c) (s := -1) (fun _ => by omega) (fun t r ht hr h8 => by
    have h1 := hr (by omega)
    have hE := hM.1.E (k := t) ⟨ht, by omega⟩
    have h2 := zmul_bd hE hU.2.1
    have h3 := hT (zor set (zshl 1 t))
    unfold qPoK qGr
    split
    · exact h1
    · split <;> omega) n hn.1
  exact this hn.2
theorem qPo_bd {M : Int → Int} (hM : zOK M) : ∀ n : Nat, (n : Int) ≤ M 3 → ∀ set, -1 ≤ qPo M n set ∧ qPo M n set ≤ 180 * n := by
  have h3 := hM.1.m3
  intro n
  induction n with
  | zero => intro _ set; unfold qPo; omega
  | succ n ih =>
    intro hn set
    have := qPoF_bd hM (p := M 3 - (n + 1)) (c := 180 * n) ⟨by omega, by omega⟩ (by omega) (ih (by omega)) set (n := 8) ⟨by decide, by decide⟩
    unfold qPo
    omega
/-- how many of eight bits are set -/
def qCnt (set : Int) : Int := zsum (fun k => if zB set k.toNat = true then 1 else 0) 8
theorem zsum_le2 {f g : Int → Int} {n : Int} (hn : 0 ≤ n) (h : ∀ t, 0 ≤ t → t < n → f t ≤ g t) : zsum f n ≤ zsum g n := by
  have : ∀ m : Nat, (m : Int) ≤ n → zsum f m ≤ zsum g m := by
    intro m
    induction m with
    | zero => intro _; exact Int.le_refl _
    | succ m ih =>
      intro hm
      rw [show ((m + 1 : Nat) : Int) = (m : Int) + 1 by omega, zsum_s _ (by omega), zsum_s _ (by omega)]
      have h1 := ih (by omega)
      have h2 := h m (by omega) (by omega)
      omega
  have := this n.toNat (by omega)
  rwa [Int.toNat_of_nonneg hn] at this
theorem zsum_delta (k : Int) {n : Int} (hn : 0 ≤ n) : zsum (fun t => if t = k then 1 else 0) n = if 0 ≤ k ∧ k < n then 1 else 0 := by
  have : ∀ m : Nat, zsum (fun t => if t = k then 1 else 0) m = if 0 ≤ k ∧ k < (m : Int) then 1 else 0 := by
    intro m
    induction m with
    | zero => rw [if_neg (by omega)]; rfl
    | succ m ih =>
      rw [show ((m + 1 : Nat) : Int) = (m : Int) + 1 by omega, zsum_s _ (by omega), ih]
      (repeat' split) <;> omega
  have := this n.toNat
  rwa [Int.toNat_of_nonneg hn] at this
theorem qCnt_or {set k : Int} (hk : 0 ≤ k ∧ k < 8) : qCnt (zor set (zshl 1 k)) ≤ qCnt set + 1 := by
  have h := zsum_le2 (f := fun t => if zB (zor set (zshl 1 k)) t.toNat = true then 1 else 0) (g := fun t => (if zB set t.toNat = true then 1 else 0) + (if t = k then 1 else 0)) (n := 8) (by decide) (fun t t0 t1 => by
    rw [zB_or, zB_shl1 hk.1 (by omega) (by omega), Int.toNat_of_nonneg t0]
    by_cases e : t = k
    · simp [e]; split <;> omega
    · simp [e])
  rw [zsum_add _ _ (by decide), zsum_delta k (by decide), if_pos hk] at h
  exact h
theorem qCnt_free {set : Int} (h : qCnt set ≤ 7) : ∃ k, 0 ≤ k ∧ k < 8 ∧ ¬ zbit set k = 1 := by
  refine Classical.byContradiction (fun hno => ?_)
  have h1 := zsum_le2 (f := fun _ => (1 : Int)) (g := fun k => if zB set k.toNat = true then 1 else 0) (n := 8) (by decide) (fun t t0 t1 => by
    have : zbit set t = 1 := Classical.byContradiction (fun z => hno ⟨t, t0, t1, z⟩)
    rw [if_pos ((zbit_B1 t0 (by omega)).mp this)]
    exact Int.le_refl _)
  unfold qCnt at h
  rw [show zsum (fun _ => (1 : Int)) 8 = 8 from rfl] at h1
  omega
theorem qPoF_ge {M : Int → Int} {p : Int} {T : Int → Int} {set k : Int} (hk : 0 ≤ k ∧ k < 8) (hf : ¬ zbit set k = 1) (hT : 0 ≤ T (zor set (zshl 1 k))) (hE : 0 ≤ M (38 + k) * M (46 + 4 * p + 1)) : 0 ≤ zfold (qPoK M p T set) (-1) 8 := by
  have : ∀ n : Int, 0 ≤ n → (k < n → 0 ≤ zfold (qPoK M p T set) (-1) n) ∧ -1 ≤ zfold (qPoK M p T set) (-1) n := fun n hn => zfold_P (f := qPoK M p T set) (P := fun n r => (k < n → 0 ≤ r) ∧ -1 ≤ r) (s := -1) ⟨fun z => by omega, by decide⟩ (fun t r ht hr => by
    have hg : ∀ v, r ≤ qGr r v ∧ v ≤ qGr r v := fun v => by unfold qGr; split <;> omega
    unfold qPoK
    by_cases e : t = k
    · rw [e, if_neg (fun z => z.elim hf (fun z2 => by omega))]
      have := hg (T (zor set (zshl 1 k)) + M (38 + k) * M (46 + 4 * p + 1))
      exact ⟨fun _ => by omega, by omega⟩
    · split
      · exact ⟨fun z => hr.1 (by omega), hr.2⟩
      · have := hg (T (zor set (zshl 1 t)) + M (38 + t) * M (46 + 4 * p + 1))
        exact ⟨fun z => by have := hr.1 (by omega); omega, by omega⟩) n hn
  exact (this 8 (by decide)).1 hk.2
theorem qPo_ge {M : Int → Int} (hM : zOK M) : ∀ n : Nat, (n : Int) ≤ M 3 → ∀ set, qCnt set + n ≤ 8 → 0 ≤ qPo M n set := by
  have h3 := hM.1.m3
  intro n
  induction n with
  | zero => intro _ set _; unfold qPo; decide
  | succ n ih =>
    intro hn set hc
    obtain ⟨k, k0, k1, k2⟩ := qCnt_free (set := set) (by omega)
    have h := ih (by omega) (zor set (zshl 1 k)) (by have := qCnt_or (set := set) ⟨k0, k1⟩; omega)
    have hU := hM.1.U (p := M 3 - (n + 1)) ⟨by omega, by omega⟩
    rw [qPo_s]
    exact qPoF_ge ⟨k0, k1⟩ k2 h (Int.mul_nonneg (hM.1.E ⟨k0, k1⟩).1 hU.2.1.1)
/-- in a table that is not empty, some place is a best one -/
theorem qPoF_ex {M : Int → Int} {p : Int} {T : Int → Int} {set : Int} (h : ¬ zfold (qPoK M p T set) (-1) 8 = -1) : ∃ k, 0 ≤ k ∧ k < 8 ∧ ¬ zbit set k = 1 ∧ ¬ T (zor set (zshl 1 k)) = -1 ∧ T (zor set (zshl 1 k)) + M (38 + k) * M (46 + 4 * p + 1) = zfold (qPoK M p T set) (-1) 8 := by
  have : zfold (qPoK M p T set) (-1) 8 = -1 ∨ ∃ k, 0 ≤ k ∧ k < 8 ∧ ¬ zbit set k = 1 ∧ ¬ T (zor set (zshl 1 k)) = -1 ∧ T (zor set (zshl 1 k)) + M (38 + k) * M (46 + 4 * p + 1) = zfold (qPoK M p T set) (-1) 8 :=
    zfold_P (f := qPoK M p T set) (P := fun n r => r = -1 ∨ ∃ k, 0 ≤ k ∧ k < n ∧ ¬ zbit set k = 1 ∧ ¬ T (zor set (zshl 1 k)) = -1 ∧ T (zor set (zshl 1 k)) + M (38 + k) * M (46 + 4 * p + 1) = r) (s := -1) (Or.inl rfl) (fun t r ht hr => by
      have hr2 : r = -1 ∨ ∃ k, 0 ≤ k ∧ k < t + 1 ∧ ¬ zbit set k = 1 ∧ ¬ T (zor set (zshl 1 k)) = -1 ∧ T (zor set (zshl 1 k)) + M (38 + k) * M (46 + 4 * p + 1) = r := by
        rcases hr with e | ⟨k, a, b, c⟩
        · exact Or.inl e
        · exact Or.inr ⟨k, a, by omega, c⟩
      unfold qPoK qGr
      split
      · exact hr2
      · rename_i hc
        split
        · exact hr2
        · exact Or.inr ⟨t, ht, by omega, fun z => hc (Or.inl z), fun z => hc (Or.inr z), rfl⟩) 8 (by decide)
  exact this.resolve_left h
noncomputable def qPoT (M : Int → Int) (p set : Int) : Int := qPo M (M 3 - p).toNat set
theorem qPoT_s {M : Int → Int} {p : Int} (h : p < M 3) (set : Int) : qPoT M p set = zfold (qPoK M p (qPoT M (p + 1)) set) (-1) 8 := by
  unfold qPoT
  have e : qPoT M (p + 1) = qPo M (M 3 - (p + 1)).toNat := rfl
  rw [show (M 3 - p).toNat = (M 3 - (p + 1)).toNat + 1 by omega, qPo_s, show M 3 - (((M 3 - (p + 1)).toNat : Int) + 1) = p by omega, ← e]
theorem qPoT_bd {M : Int → Int} (hM : zOK M) {p : Int} (hp : 0 ≤ p ∧ p ≤ M 3) (set : Int) : -1 ≤ qPoT M p set ∧ qPoT M p set ≤ 1260 := by
  have h3 := hM.1.m3
  have := qPo_bd hM (M 3 - p).toNat (by omega) set
  unfold qPoT
  omega
def zPoI (σ : zMem) (p : Int) (S : zMem) : Prop := zScx σ S ∧ ∀ p' set, p < p' → p' ≤ σ 1 3 → 0 ≤ set → set < 256 → S 11 (256 * p' + set) = qPoT (σ 1) p' set
theorem zPoI.put {σ S : zMem} {h j v : Int} (hI : zPoI σ h S) (hj : 0 ≤ j ∧ j < 256 * h + 256) : zPoI σ h (zset S 11 j v) :=
  ⟨hI.1.hi (by decide), fun h' set a b c d => by rw [zset_at, if_neg (by omega)]; exact hI.2 h' set a b c d⟩
theorem m_X12_postsOf {G : zG} {lay : zLay} {σ C0 : zMem} {nx x : Int} (hR : RefL lay x) (hJ : zJs σ) (hM : zOK (σ 1)) : zMM G 2 KX12_postsOf [zP x] lay (rC x σ C0) nx (0, 0) (zX' none (fun q => zScx σ q ∧ ∀ p set, 0 ≤ p → p ≤ σ 1 3 → 0 ≤ set → set < 256 → q 11 (256 * p + set) = qPoT (σ 1) p set) lay C0 nx x) := by
  refine z_met' (L := [zP x, zU, zU, zU, zU, zU]) gX12_postsOf.1 rfl rfl (Nat.le_of_ble_eq_true rfl) rfl ?_
  have hm3 := hM.1.m3
  generalize hQ : zX' _ _ lay C0 nx x = Q
  have w42 : ∀ p : Int, -1 ≤ p → p < σ 1 3 → ∀ (S : zMem) (y2 y3 y4 y5 : zAV), y2.1 ≠ 1 → y3.1 ≠ 1 → y4.1 ≠ 1 → zPoI σ p S → zW G KX12_postsOf 2 Q 42 [zP x, zI p, y2, y3, y4, y5] [] lay (rC x S C0) nx (0, 0) := by
    refine z_down ?_ (σ 1 3) ?_
    · subst hQ
      intro S y2 y3 y4 y5 _ _ _ hI
      refine z_il1 eX12_postsOf_42 ?_
      refine z_if_lt (tgt := 163) eX12_postsOf_43 rfl ⟨by omega, by omega⟩ (fun h43 => ?_) (fun h43 => (by exfalso; omega))
      refine z_return eX12_postsOf_163 rfl ?_
      exact zXv ⟨hI.1, fun p set a b c d => hI.2 p set (by omega) b c d⟩
    · intro p p0 p1 ih S y2 y3 y4 y5 hy2 hy3 hy4 hI
      have hU := hM.1.U (p := p) ⟨p0, by omega⟩
      have w48 : ∀ set : Int, 0 ≤ set → set ≤ 256 → ∀ (S : zMem) (y3 y4 y5 : zAV), y3.1 ≠ 1 → y4.1 ≠ 1 → zPoI σ p S → (∀ j, 0 ≤ j → j < set → S 11 (256 * p + j) = qPoT (σ 1) p j) → zW G KX12_postsOf 2 Q 48 [zP x, zI p, zI set, y3, y4, y5] [] lay (rC x S C0) nx (0, 0) := by
        refine z_up 256 ?_ ?_
        · intro S y3 y4 y5 hy3 hy4 hI hP
          refine z_il2 eX12_postsOf_48 ?_
          refine z_sipush eX12_postsOf_49 (by decide) ?_
          refine z_icmp_ge (tgt := 157) eX12_postsOf_52 rfl ⟨⟨by omega, by omega⟩, ⟨by omega, by omega⟩⟩ (fun h52 => ?_) (fun h52 => (by exfalso; omega))
          refine z_ii1 eX12_postsOf_157 (Nat.ne_of_beq_eq_false rfl) ?_
          refine z_goto eX12_postsOf_160 (tgt := 42) rfl ?_
          exact ih S _ _ _ _ (Nat.ne_of_beq_eq_false rfl) hy3 hy4 ⟨hI.1, fun p' j a b c d => (show p' = p ∨ p < p' by omega).elim (fun e => by rw [e]; exact hP j c d) (fun e => hI.2 p' j e b c d)⟩
        · intro set s0 s1 ih2 S y3 y4 y5 hy3 hy4 hI hP
          have hS1 := hI.1.r1
          have hTs := qPoT_s (M := σ 1) p1 set
          have w60 : ∀ k : Int, 0 ≤ k → k ≤ 8 → ∀ y5 : zAV, zW G KX12_postsOf 2 Q 60 [zP x, zI p, zI set, zI (zfold (qPoK (σ 1) p (qPoT (σ 1) (p + 1)) set) (-1) k), zI k, y5] [] lay (rC x S C0) nx (0, 0) := by
            refine z_up 8 ?_ ?_
            · intro y5
              rw [← hTs]
              refine z_il4 eX12_postsOf_60 ?_
              refine z_bipush eX12_postsOf_62 (by decide) ?_
              refine z_icmp_ge (tgt := 138) eX12_postsOf_64 rfl ⟨⟨by omega, by omega⟩, ⟨by omega, by omega⟩⟩ (fun h64 => ?_) (fun h64 => (by exfalso; omega))
              refine z_al0 eX12_postsOf_138 hR.ne ?_
              refine z_ra lX12_45 eX12_postsOf_139 rfl hR rfl ?_
              refine z_sipush eX12_postsOf_142 (by decide) ?_
              refine z_il1 eX12_postsOf_145 ?_
              refine z_imul eX12_postsOf_146 ?_
              refine z_il2 eX12_postsOf_147 ?_
              refine z_iadd eX12_postsOf_148 ?_
              refine z_il3 eX12_postsOf_149 ?_
              refine z_rs eX12_postsOf_150 hR (by decide) rfl rfl ⟨by omega, by omega⟩ ?_
              refine z_ii2 eX12_postsOf_151 (Nat.ne_of_beq_eq_false rfl) ?_
              refine z_goto eX12_postsOf_154 (tgt := 48) rfl ?_
              refine ih2 _ _ _ _ (Nat.ne_of_beq_eq_false rfl) (Nat.ne_of_beq_eq_false rfl) (hI.put ⟨by omega, by omega⟩) (fun j j0 j1 => ?_)
              by_cases e : j = set
              · rw [e, zset_eq]
              · rw [zset_at, if_neg (by omega)]; exact hP j j0 (by omega)
            · intro k k0 k1 ih3 y5
              have hz := zor_256 (s := set) (k := k) ⟨s0, s1⟩ ⟨k0, k1⟩
              have t1 := hI.2 (p + 1) (zor set (zshl 1 k)) (by omega) (by omega) hz.1 hz.2
              have bT := qPoT_bd hM (p := p + 1) ⟨by omega, by omega⟩ (zor set (zshl 1 k))
              have hE := hM.1.E (k := k) ⟨k0, k1⟩
              have hm := zmul_bd hE hU.2.1
              have hcur := qPoF_bd hM (p := p) (c := 1260) ⟨p0, by omega⟩ (by decide) (T := qPoT (σ 1) (p + 1)) (fun s => qPoT_bd hM (p := p + 1) ⟨by omega, by omega⟩ s) set (n := k) ⟨k0, by omega⟩
              have e : zfold (qPoK (σ 1) p (qPoT (σ 1) (p + 1)) set) (-1) (k + 1) = qPoK (σ 1) p (qPoT (σ 1) (p + 1)) set k (zfold (qPoK (σ 1) p (qPoT (σ 1) (p + 1)) set) (-1) k) := zfold_s _ _ k0
              rw [e] at ih3
              generalize zfold (qPoK (σ 1) p (qPoT (σ 1) (p + 1)) set) (-1) k = cur at ih3 hcur ⊢
              unfold qPoK at ih3
              refine z_il4 eX12_postsOf_60 ?_
              refine z_bipush eX12_postsOf_62 (by decide) ?_
              refine z_icmp_ge (tgt := 138) eX12_postsOf_64 rfl ⟨⟨by omega, by omega⟩, ⟨by omega, by omega⟩⟩ (fun h64 => (by exfalso; omega)) (fun h64 => ?_)
              refine z_il2 eX12_postsOf_67 ?_
              refine z_il4 eX12_postsOf_68 ?_
              refine z_S2 eX12_postsOf_70 vX12_290 rfl rfl (Nat.le_of_ble_eq_true rfl) (Nat.le_of_ble_eq_true rfl) (m_X12_isOf ) ?_
              try rw [hS1]
              refine z_ifb_eq (tgt := 80) eX12_postsOf_73 rfl (fun h73 => ?_) (fun h73 => ?_)
              · refine z_al0 eX12_postsOf_80 hR.ne ?_
                refine z_ra lX12_45 eX12_postsOf_81 rfl hR rfl ?_
                try rw [hS1]
                refine z_sipush eX12_postsOf_84 (by decide) ?_
                refine z_il1 eX12_postsOf_87 ?_
                refine z_iconst eX12_postsOf_88 ?_
                refine z_iadd eX12_postsOf_89 ?_
                refine z_imul eX12_postsOf_90 ?_
                refine z_il2 eX12_postsOf_91 ?_
                refine z_iconst eX12_postsOf_92 ?_
                refine z_il4 eX12_postsOf_93 ?_
                refine z_ishl eX12_postsOf_95 ?_
                refine z_ior eX12_postsOf_96 ?_
                refine z_iadd eX12_postsOf_97 ?_
                refine z_rl eX12_postsOf_98 hR (by decide) rfl rfl ⟨by omega, by omega⟩ ?_
                try rw [hS1]
                first | rw [t1] | skip
                refine z_is5 eX12_postsOf_99 (Nat.ne_of_beq_eq_false rfl) ?_
                refine z_il5 eX12_postsOf_101 ?_
                refine z_iconst eX12_postsOf_103 ?_
                refine z_icmp_eq (tgt := 132) eX12_postsOf_104 rfl ⟨⟨by omega, by omega⟩, ⟨by omega, by omega⟩⟩ (fun h104 => ?_) (fun h104 => ?_)
                · refine z_ii4 eX12_postsOf_132 (Nat.ne_of_beq_eq_false rfl) ?_
                  refine z_goto eX12_postsOf_135 (tgt := 60) rfl ?_
                  first | (have e2 := h73; rw [if_pos (Or.inl e2)] at ih3; exact ih3 _) | (have e2 := h104; rw [if_pos (Or.inr e2)] at ih3; exact ih3 _) | (have e2 := h73; have e3 := h104; rw [if_neg (fun z => z.elim e2 e3)] at ih3; exact ih3 _) | (exfalso; omega) | fail
                · refine z_il3 eX12_postsOf_107 ?_
                  refine z_il5 eX12_postsOf_108 ?_
                  refine z_al0 eX12_postsOf_110 hR.ne ?_
                  refine z_ra lX12_7 eX12_postsOf_111 rfl hR rfl ?_
                  try rw [hS1]
                  refine z_bipush eX12_postsOf_114 (by decide) ?_
                  refine z_il4 eX12_postsOf_116 ?_
                  refine z_iadd eX12_postsOf_118 ?_
                  refine z_rl eX12_postsOf_119 hR (by decide) rfl rfl ⟨by omega, by omega⟩ ?_
                  try rw [hS1]
                  refine z_al0 eX12_postsOf_120 hR.ne ?_
                  refine z_il1 eX12_postsOf_121 ?_
                  refine z_iconst eX12_postsOf_122 ?_
                  refine z_V2 eX12_postsOf_123 vX12_62 rfl rfl (Nat.le_of_ble_eq_true rfl) (Nat.le_of_ble_eq_true rfl) hR.x (m_X12_of hR ⟨by omega, by omega⟩ (by decide)) ?_
                  try rw [hS1]
                  refine z_imul eX12_postsOf_126 ?_
                  refine z_iadd eX12_postsOf_127 ?_
                  refine z_S2 eX12_postsOf_128 vX12_274 rfl rfl (Nat.le_of_ble_eq_true rfl) (Nat.le_of_ble_eq_true rfl) (m_X12_greater ⟨⟨by omega, by omega⟩, ⟨by omega, by omega⟩⟩) ?_
                  try rw [hS1]
                  change zW _ _ _ _ _ _ (zI (qGr _ _) :: _) _ _ _ _
                  refine z_is3 eX12_postsOf_131 (Nat.ne_of_beq_eq_false rfl) ?_
                  refine z_ii4 eX12_postsOf_132 (Nat.ne_of_beq_eq_false rfl) ?_
                  refine z_goto eX12_postsOf_135 (tgt := 60) rfl ?_
                  first | (have e2 := h73; rw [if_pos (Or.inl e2)] at ih3; exact ih3 _) | (have e2 := h104; rw [if_pos (Or.inr e2)] at ih3; exact ih3 _) | (have e2 := h73; have e3 := h104; rw [if_neg (fun z => z.elim e2 e3)] at ih3; exact ih3 _) | (exfalso; omega) | fail
              · refine z_iconst eX12_postsOf_76 ?_
                refine z_goto eX12_postsOf_77 (tgt := 99) rfl ?_
                first | rw [t1] | skip
                refine z_is5 eX12_postsOf_99 (Nat.ne_of_beq_eq_false rfl) ?_
                refine z_il5 eX12_postsOf_101 ?_
                refine z_iconst eX12_postsOf_103 ?_
                refine z_icmp_eq (tgt := 132) eX12_postsOf_104 rfl ⟨⟨by omega, by omega⟩, ⟨by omega, by omega⟩⟩ (fun h104 => ?_) (fun h104 => (by exfalso; omega))
                refine z_ii4 eX12_postsOf_132 (Nat.ne_of_beq_eq_false rfl) ?_
                refine z_goto eX12_postsOf_135 (tgt := 60) rfl ?_
                first | (have e2 := h73; rw [if_pos (Or.inl e2)] at ih3; exact ih3 _) | (have e2 := h104; rw [if_pos (Or.inr e2)] at ih3; exact ih3 _) | (have e2 := h73; have e3 := h104; rw [if_neg (fun z => z.elim e2 e3)] at ih3; exact ih3 _) | (exfalso; omega) | fail
          have h0 := w60 0 (by decide) (by decide) y5
          rw [zfold_0] at h0
          refine z_il2 eX12_postsOf_48 ?_
          refine z_sipush eX12_postsOf_49 (by decide) ?_
          refine z_icmp_ge (tgt := 157) eX12_postsOf_52 rfl ⟨⟨by omega, by omega⟩, ⟨by omega, by omega⟩⟩ (fun h52 => (by exfalso; omega)) (fun h52 => ?_)
          refine z_iconst eX12_postsOf_55 ?_
          refine z_is3 eX12_postsOf_56 (Nat.ne_of_beq_eq_false rfl) ?_
          refine z_iconst eX12_postsOf_57 ?_
          refine z_is4 eX12_postsOf_58 (Nat.ne_of_beq_eq_false rfl) ?_
          exact h0
      refine z_il1 eX12_postsOf_42 ?_
      refine z_if_lt (tgt := 163) eX12_postsOf_43 rfl ⟨by omega, by omega⟩ (fun h43 => (by exfalso; omega)) (fun h43 => ?_)
      refine z_iconst eX12_postsOf_46 ?_
      refine z_is2 eX12_postsOf_47 (Nat.ne_of_beq_eq_false rfl) ?_
      exact w48 0 (by decide) (by decide) S _ _ _ hy3 hy4 hI (fun j j0 j1 => by omega)
  have w2 : ∀ j : Int, 0 ≤ j → j ≤ 256 → ∀ S : zMem, zScx σ S → (∀ i, 0 ≤ i → i < j → S 11 (256 * σ 1 3 + i) = 0) → zW G KX12_postsOf 2 Q 2 [zP x, zI j, zU, zU, zU, zU] [] lay (rC x S C0) nx (0, 0) := by
    refine z_up 256 ?_ ?_
    · intro S hSc hP
      have hS1 := hSc.r1
      refine z_il1 eX12_postsOf_2 ?_
      refine z_sipush eX12_postsOf_3 (by decide) ?_
      refine z_icmp_ge (tgt := 33) eX12_postsOf_6 rfl ⟨⟨by omega, by omega⟩, ⟨by omega, by omega⟩⟩ (fun h6 => ?_) (fun h6 => (by exfalso; omega))
      refine z_al0 eX12_postsOf_33 hR.ne ?_
      refine z_ra lX12_7 eX12_postsOf_34 rfl hR rfl ?_
      try rw [hS1]
      refine z_iconst eX12_postsOf_37 ?_
      refine z_rl eX12_postsOf_38 hR (by decide) rfl rfl ⟨by omega, by omega⟩ ?_
      try rw [hS1]
      refine z_iconst eX12_postsOf_39 ?_
      refine z_isub eX12_postsOf_40 ?_
      refine z_is1 eX12_postsOf_41 (Nat.ne_of_beq_eq_false rfl) ?_
      exact w42 (σ 1 3 - 1) (by omega) (by omega) S _ _ _ _ (Nat.ne_of_beq_eq_false rfl) (Nat.ne_of_beq_eq_false rfl) (Nat.ne_of_beq_eq_false rfl) ⟨hSc, fun p' set a b c d => by rw [show p' = σ 1 3 by omega, hP set c d]; unfold qPoT; rw [show (σ 1 3 - σ 1 3).toNat = 0 by omega]; rfl⟩
    · intro j j0 j1 ih S hSc hP
      have hS1 := hSc.r1
      refine z_il1 eX12_postsOf_2 ?_
      refine z_sipush eX12_postsOf_3 (by decide) ?_
      refine z_icmp_ge (tgt := 33) eX12_postsOf_6 rfl ⟨⟨by omega, by omega⟩, ⟨by omega, by omega⟩⟩ (fun h6 => (by exfalso; omega)) (fun h6 => ?_)
      refine z_al0 eX12_postsOf_9 hR.ne ?_
      refine z_ra lX12_45 eX12_postsOf_10 rfl hR rfl ?_
      try rw [hS1]
      refine z_sipush eX12_postsOf_13 (by decide) ?_
      refine z_al0 eX12_postsOf_16 hR.ne ?_
      refine z_ra lX12_7 eX12_postsOf_17 rfl hR rfl ?_
      try rw [hS1]
      refine z_iconst eX12_postsOf_20 ?_
      refine z_rl eX12_postsOf_21 hR (by decide) rfl rfl ⟨by omega, by omega⟩ ?_
      try rw [hS1]
      refine z_imul eX12_postsOf_22 ?_
      refine z_il1 eX12_postsOf_23 ?_
      refine z_iadd eX12_postsOf_24 ?_
      refine z_iconst eX12_postsOf_25 ?_
      refine z_rs eX12_postsOf_26 hR (by decide) rfl rfl ⟨by omega, by omega⟩ ?_
      refine z_ii1 eX12_postsOf_27 (Nat.ne_of_beq_eq_false rfl) ?_
      refine z_goto eX12_postsOf_30 (tgt := 2) rfl ?_
      refine ih _ (hSc.hi (by decide)) (fun i i0 i1 => ?_)
      by_cases e : i = j
      · rw [e, zset_eq]
      · rw [zset_at, if_neg (by omega)]; exact hP i i0 (by omega)
  refine z_iconst eX12_postsOf_0 ?_
  refine z_is1 eX12_postsOf_1 (Nat.ne_of_beq_eq_false rfl) ?_
  exact w2 0 (by decide) (by decide) σ (zScx.refl hJ) (fun i i0 i1 => by omega)
