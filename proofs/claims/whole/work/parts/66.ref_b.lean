/-! Hours. -/
theorem m_X12_goesWet {G : zG} {lay : zLay} {σ C0 : zMem} {nx x : Int} {k : Int} (hR : RefL lay x) (hS : TxS lay C0) (hJ : zJs σ) (hM : zOL (σ 1)) (hk : 0 ≤ k ∧ k < 8) : zMM G 68 KX12_goesWet [zP x, zI k] lay (rC x σ C0) nx (0, 0) (zX' (some (zI (zbi (qGo (σ 1) k 2 (σ 1 6) = 1)))) (zScr σ) lay C0 nx x) := by
  refine z_met' (L := [zP x, zI k]) gX12_goesWet.1 rfl rfl (Nat.le_of_ble_eq_true rfl) rfl ?_
  have h6 := hM.1.1.s 6 rfl (by omega)
  have hb := qGo_bd (σ 1) k 2 (σ 1 6)
  refine z_al0 eX12_goesWet_0 hR.ne ?_
  refine z_il1 eX12_goesWet_1 ?_
  refine z_iconst eX12_goesWet_2 ?_
  refine z_al0 eX12_goesWet_3 hR.ne ?_
  refine z_ra lX12_7 eX12_goesWet_4 rfl hR rfl ?_
  refine z_bipush eX12_goesWet_7 (by decide) ?_
  refine z_rl eX12_goesWet_9 hR (by decide) rfl rfl ⟨by omega, by omega⟩ ?_
  refine z_V3x eX12_goesWet_10 vX12_294 rfl rfl (Nat.le_of_ble_eq_true rfl) (Nat.le_of_ble_eq_true rfl) hR.x (m_X12_goesIn hR hS hJ hM ⟨by omega, by omega⟩ ⟨by omega, by omega⟩ ⟨by omega, by omega⟩) (fun s10 hs10 => ?_)
  refine z_iconst eX12_goesWet_13 ?_
  refine z_icmp_ne (tgt := 21) eX12_goesWet_14 rfl ⟨⟨by omega, by omega⟩, ⟨by omega, by omega⟩⟩ (fun h14 => ?_) (fun h14 => ?_)
  · refine z_iconst eX12_goesWet_21 ?_
    refine z_zreturn eX12_goesWet_22 rfl (by first | exact Or.inl rfl | exact Or.inr rfl | exact zbi_01 _ | assumption | omega) ?_
    first | exact zXe hs10 (by rw [zbi_t h14]) | exact zXe hs10 (by rw [zbi_f h14])
  · refine z_iconst eX12_goesWet_17 ?_
    refine z_goto eX12_goesWet_18 (tgt := 22) rfl ?_
    refine z_zreturn eX12_goesWet_22 rfl (by first | exact Or.inl rfl | exact Or.inr rfl | exact zbi_01 _ | assumption | omega) ?_
    first | exact zXe hs10 (by rw [zbi_t h14]) | exact zXe hs10 (by rw [zbi_f h14])
/-- the first place from s on where the sum is past v -/
def qPickN (f : Int → Int) (v : Int) : Nat → Int → Int → Int
  | 0, s, _ => s
  | k + 1, s, sum => if v < sum then s else qPickN f v k (s + 1) (sum + f (s + 1))
def qSkyN (M : Int → Int) : Int := qPickN (fun t => M (13 + 5 * M 5 + t)) (qDrawV M (zsum (fun t => M (13 + 5 * M 5 + t)) 5)) 4 0 (M (13 + 5 * M 5 + 0))
theorem qPickN_bd (f : Int → Int) (v : Int) : ∀ (k : Nat) (s sum : Int), s ≤ qPickN f v k s sum ∧ qPickN f v k s sum ≤ s + k := by
  intro k
  induction k with
  | zero => intro s sum; exact ⟨Int.le_refl s, by show s ≤ s + ((0 : Nat) : Int); omega⟩
  | succ k ih =>
    intro s sum
    unfold qPickN
    split
    · omega
    · have := ih (s + 1) (sum + f (s + 1)); omega
theorem qSkyN_bd (M : Int → Int) : 0 ≤ qSkyN M ∧ qSkyN M ≤ 4 := by
  have := qPickN_bd (fun t => M (13 + 5 * M 5 + t)) (qDrawV M (zsum (fun t => M (13 + 5 * M 5 + t)) 5)) 4 0 (M (13 + 5 * M 5 + 0))
  unfold qSkyN
  omega
/-- once the sky is drawn -/
def qSkyed (M : Int → Int) : Int → Int := zput (qSeed M) 5 (qSkyN M)
def qComes (M : Int → Int) (k : Int) : Prop := k ≠ -1 ∧ M (74 + 5 * k + 4) = 0
noncomputable def qCame (M : Int → Int) (k : Int) : Int → Int := zif (qComes M k) (qLog (zput M (74 + 5 * k + 4) (qGo M k (M 5) (M 6))) k) M
def qHourOn (M : Int → Int) : Int → Int := if M 6 + 1 = 12 then zput (zput (zput M 6 (M 6 + 1)) 6 0) 7 (if 9999 < M 7 + 1 then 9999 else M 7 + 1) else zput M 6 (M 6 + 1)
noncomputable def qPassM (M : Int → Int) : Int → Int := qHourOn (qCame (qSkyed M) (qSkyed M (114 + qSkyed M 6)))
noncomputable def qPassD (M : Int → Int) : Int := if qSkyN M = 2 then 1 else 0
noncomputable def qPassC (M : Int → Int) : Int := zbi (qComes (qSkyed M) (qSkyed M (114 + qSkyed M 6)) ∧ qPassM M (74 + 5 * qSkyed M (114 + qSkyed M 6) + 4) = 1)
theorem qSkyed_OL {M : Int → Int} (h : zOL M) : zOL (qSkyed M) := by
  have hb := qSkyN_bd M
  exact (h.put (k := 12) (Or.inl (by decide)) (by decide) (fun _ _ => Or.inl (Or.inl rfl))).put (k := 5) (Or.inl (by decide)) (by decide) (fun _ _ => Or.inr ⟨hb.1, hb.2⟩)
theorem zInv.P8 {M : Int → Int} (h : zInv M) {t : Int} (ht : 0 ≤ t ∧ t < 12) : -1 ≤ M (114 + t) ∧ M (114 + t) ≤ 7 :=
  h.at (lo := -1) (hi := 7) (zBd_P ht) ⟨by omega, by omega⟩ (by unfold zFree; omega)
theorem zFree_V4 {k : Int} : ¬ zFree (74 + 5 * k + 4) := by unfold zFree; omega
theorem qCame_OL {M : Int → Int} {k : Int} (h : zOL M) (hk : -1 ≤ k ∧ k < 8) : zOL (qCame M k) := by
  unfold qCame
  by_cases hc : qComes M k
  · rw [zif_t hc]
    have hk0 := hc.1
    have hg := qGo_bd M k (M 5) (M 6)
    refine qLog_OL (h.put (by omega) (by omega) (fun _ _ => Or.inr ?_)) ⟨by omega, hk.2⟩
    rw [zBd_V ⟨by omega, hk.2⟩ ⟨by decide, by decide⟩]
    exact ⟨by show (0 : Int) ≤ _; omega, hg.2⟩
  · rw [zif_f hc]; exact h
theorem qHourOn_OL {M : Int → Int} (h : zOL M) : zOL (qHourOn M) := by
  have h6 := h.1.1.s 6 rfl (by omega)
  have h7 := h.1.1.s 7 rfl (by omega)
  unfold qHourOn
  split
  · rw [show zput (zput M 6 (M 6 + 1)) 6 0 = zput M 6 0 by funext j; unfold zput; split <;> rfl]
    refine (h.put (k := 6) (Or.inl (by decide)) (by decide) (fun _ _ => Or.inr ⟨by decide, by decide⟩)).put (k := 7) (Or.inl (by decide)) (by decide) (fun _ _ => Or.inr ?_)
    show 0 ≤ (if 9999 < M 7 + 1 then 9999 else M 7 + 1) ∧ (if 9999 < M 7 + 1 then 9999 else M 7 + 1) ≤ 9999
    split <;> omega
  · refine h.put (k := 6) (Or.inl (by decide)) (by decide) (fun _ _ => Or.inr ?_)
    show 0 ≤ M 6 + 1 ∧ M 6 + 1 ≤ 11
    omega
theorem qPassM_OL {M : Int → Int} (h : zOL M) : zOL (qPassM M) := by
  have h1 := qSkyed_OL h
  have h6 := h1.1.1.s 6 rfl (by omega)
  have hP := h1.1.1.P8 (t := qSkyed M 6) ⟨h6.1, by omega⟩
  exact qHourOn_OL (qCame_OL h1 ⟨hP.1, by omega⟩)
theorem qDrawV_bd (M : Int → Int) {n : Int} (h : 0 < n) : 0 ≤ qDrawV M n ∧ qDrawV M n < n := ⟨Int.emod_nonneg _ (by omega), Int.emod_lt_of_pos _ h⟩
theorem zInv.W {M : Int → Int} (h : zInv M) {s t : Int} (hs : 0 ≤ s ∧ s < 5) (ht : 0 ≤ t ∧ t < 5) : 0 ≤ M (13 + 5 * s + t) ∧ M (13 + 5 * s + t) ≤ 9 :=
  h.at (lo := 0) (hi := 9) (zBd_W ⟨by omega, by omega⟩) ⟨by omega, by omega⟩ (by unfold zFree; omega)
theorem m_X12_passes {G : zG} {lay : zLay} {σ C0 : zMem} {nx x : Int} (hR : RefL lay x) (hS : TxS lay C0) (hJ : zJs σ) (hM : zOL (σ 1)) : zMM G 68 KX12_passes [zP x] lay (rC x σ C0) nx (0, 0) (zX' (some (zI (qPassC (σ 1)))) (zScr (zM (zset σ 0 25 (σ 0 25 + qPassD (σ 1))) (qPassM (σ 1)))) lay C0 nx x) := by
  refine z_met' (L := [zP x, zU, zU, zU, zU, zU]) gX12_passes.1 rfl rfl (Nat.le_of_ble_eq_true rfl) rfl ?_
  have h5 := hM.1.1.s 5 rfl (by omega)
  have hw : ∀ t, 0 ≤ t → t < 5 → 0 ≤ σ 1 (13 + 5 * σ 1 5 + t) ∧ σ 1 (13 + 5 * σ 1 5 + t) ≤ 9 := fun t h0 h1 => hM.1.1.W ⟨h5.1, by omega⟩ ⟨h0, h1⟩
  have hz1 := hM.1.2 (σ 1 5) h5.1 h5.2
  have hz2 := zsum_bnd (f := fun t => σ 1 (13 + 5 * σ 1 5 + t)) (c := 9) (n := 5) (by decide) (fun t h0 h1 => hw t h0 h1)
  have hv := qDrawV_bd (σ 1) (n := zsum (fun t => σ 1 (13 + 5 * σ 1 5 + t)) 5) (by omega)
  have hsk := qSkyN_bd (σ 1)
  have hO := qSkyed_OL hM
  unfold qPassC qPassM
  generalize hs : qSkyN (σ 1) = s at hsk
  unfold qPassD
  rw [hs]
  have hM2 : zput (qSeed (σ 1)) 5 s = qSkyed (σ 1) := by unfold qSkyed; rw [hs]
  unfold qSkyN at hs
  have hM25 : qSkyed (σ 1) 5 = s := by rw [← hM2, zput_eq]
  generalize qSkyed (σ 1) = M2 at hO hM2 hM25 ⊢
  have g6 := hO.1.1.s 6 rfl (by omega)
  have gP := hO.1.1.P8 (t := M2 6) ⟨g6.1, by omega⟩
  generalize hk : M2 (114 + M2 6) = k at gP ⊢
  generalize hd : (if s = 2 then (1 : Int) else 0) = d
  generalize hv' : qDrawV (σ 1) (zsum (fun t => σ 1 (13 + 5 * σ 1 5 + t)) 5) = v at hv hs
  have hJ2 : ∀ M', zJs (zM (zset σ 0 25 (σ 0 25 + d)) M') := fun M' => (hJ.set (by decide) (fun _ => by unfold zNs; omega)).m M'
  have hO3 := qCame_OL hO ⟨gP.1, by omega⟩
  have hO4 := qHourOn_OL hO3
  have w211 : ∀ (S : zMem) (c y : Int), (∀ M', zScr (zM (zset σ 0 25 (σ 0 25 + d)) M') (zM S M')) → (c = 1 ∧ qComes M2 k ∨ c = 0 ∧ ¬ qComes M2 k) → zW G KX12_passes 68 (zX' (some (zI (zbi (qComes M2 k ∧ qHourOn (qCame M2 k) (74 + 5 * k + 4) = 1)))) (zScr (zM (zset σ 0 25 (σ 0 25 + d)) (qHourOn (qCame M2 k)))) lay C0 nx x) 211 [zP x, zI v, zI s, zI y, zI k, zI c] [] lay (rC x (zM S (qHourOn (qCame M2 k))) C0) nx (0, 0) := by
    intro S c y hSc hc
    have hk0 : c ≠ 0 → k ≠ -1 := fun z => by rcases hc with h | h; exact h.2.1; exact absurd h.1 z
    have hV4 : c ≠ 0 → _ := fun z => (hO4.1.1.V (k := k) ⟨by have := hk0 z; omega, by omega⟩).2.2.2
    refine z_il5 eX12_passes_211 ?_
    refine z_if_eq (tgt := 231) eX12_passes_213 rfl ⟨by omega, by omega⟩ (fun h213 => ?_) (fun h213 => ?_)
    · refine z_iconst eX12_passes_231 ?_
      refine z_zreturn eX12_passes_232 rfl (by first | exact Or.inl rfl | exact Or.inr rfl | exact zbi_01 _ | assumption | omega) ?_
      first | exact zXe (hSc _) (by rw [zbi_t (hc.elim (fun h => ⟨h.2, by omega⟩) (fun h => absurd h.1 (by omega)))]) | exact zXe (hSc _) (by rw [zbi_f (fun z => hc.elim (fun h => absurd h.1 (by omega)) (fun h => h.2 z.1))]) | exact zXe (hSc _) (by rw [zbi_f (fun z => absurd z.2 (by omega))]) | fail
    · have hk1 := hk0 (by omega)
      have hv4 := hV4 (by omega)
      refine z_al0 eX12_passes_216 hR.ne ?_
      refine z_il4 eX12_passes_217 ?_
      refine z_iconst eX12_passes_219 ?_
      refine z_V2 eX12_passes_220 vX12_55 rfl rfl (Nat.le_of_ble_eq_true rfl) (Nat.le_of_ble_eq_true rfl) hR.x (m_X12_ofMotion hR ⟨by omega, by omega⟩ (by decide)) ?_
      try rw [zM_1]
      refine z_iconst eX12_passes_223 ?_
      refine z_icmp_ne (tgt := 231) eX12_passes_224 rfl ⟨⟨by omega, by omega⟩, ⟨by omega, by omega⟩⟩ (fun h224 => ?_) (fun h224 => ?_)
      · refine z_iconst eX12_passes_231 ?_
        refine z_zreturn eX12_passes_232 rfl (by first | exact Or.inl rfl | exact Or.inr rfl | exact zbi_01 _ | assumption | omega) ?_
        first | exact zXe (hSc _) (by rw [zbi_t (hc.elim (fun h => ⟨h.2, by omega⟩) (fun h => absurd h.1 (by omega)))]) | exact zXe (hSc _) (by rw [zbi_f (fun z => hc.elim (fun h => absurd h.1 (by omega)) (fun h => h.2 z.1))]) | exact zXe (hSc _) (by rw [zbi_f (fun z => absurd z.2 (by omega))]) | fail
      · refine z_iconst eX12_passes_227 ?_
        refine z_goto eX12_passes_228 (tgt := 232) rfl ?_
        refine z_zreturn eX12_passes_232 rfl (by first | exact Or.inl rfl | exact Or.inr rfl | exact zbi_01 _ | assumption | omega) ?_
        first | exact zXe (hSc _) (by rw [zbi_t (hc.elim (fun h => ⟨h.2, by omega⟩) (fun h => absurd h.1 (by omega)))]) | exact zXe (hSc _) (by rw [zbi_f (fun z => hc.elim (fun h => absurd h.1 (by omega)) (fun h => h.2 z.1))]) | exact zXe (hSc _) (by rw [zbi_f (fun z => absurd z.2 (by omega))]) | fail
  have w158 : ∀ (S : zMem) (c y : Int), (∀ M', zScr (zM (zset σ 0 25 (σ 0 25 + d)) M') (zM S M')) → (c = 1 ∧ qComes M2 k ∨ c = 0 ∧ ¬ qComes M2 k) → zW G KX12_passes 68 (zX' (some (zI (zbi (qComes M2 k ∧ qHourOn (qCame M2 k) (74 + 5 * k + 4) = 1)))) (zScr (zM (zset σ 0 25 (σ 0 25 + d)) (qHourOn (qCame M2 k)))) lay C0 nx x) 158 [zP x, zI v, zI s, zI y, zI k, zI c] [] lay (rC x (zM S (qCame M2 k)) C0) nx (0, 0) := by
    intro S c y hSc hc
    have h := w211 S c y hSc hc
    generalize hQ : zX' _ _ lay C0 nx x = Q at h ⊢
    generalize hM3 : qCame M2 k = M3 at h hO3 ⊢
    have g6 := hO3.1.1.s 6 rfl (by omega)
    have g7 := hO3.1.1.s 7 rfl (by omega)
    unfold qHourOn at h
    refine z_al0 eX12_passes_158 hR.ne ?_
    refine z_ra lX12_7 eX12_passes_159 rfl hR rfl ?_
    try rw [zM_n]
    refine z_bipush eX12_passes_162 (by decide) ?_
    refine z_dup2 eX12_passes_164 (Nat.ne_of_beq_eq_false rfl) (Nat.ne_of_beq_eq_false rfl) ?_
    refine z_rl eX12_passes_165 hR (by decide) rfl rfl ⟨by omega, by omega⟩ ?_
    try rw [zM_1]
    refine z_iconst eX12_passes_166 ?_
    refine z_iadd eX12_passes_167 ?_
    refine z_rs eX12_passes_168 hR (by decide) rfl rfl ⟨by omega, by omega⟩ ?_
    first | rw [zM_s] | rw [zM_s0] | skip
    refine z_al0 eX12_passes_169 hR.ne ?_
    refine z_ra lX12_7 eX12_passes_170 rfl hR rfl ?_
    try rw [zM_n]
    refine z_bipush eX12_passes_173 (by decide) ?_
    refine z_rl eX12_passes_175 hR (by decide) rfl rfl ⟨by omega, by omega⟩ ?_
    try rw [zM_1]
    rw [zput_eq]
    refine z_bipush eX12_passes_176 (by decide) ?_
    refine z_icmp_ne (tgt := 211) eX12_passes_178 rfl ⟨⟨by omega, by omega⟩, ⟨by omega, by omega⟩⟩ (fun h178 => ?_) (fun h178 => ?_)
    · first | (rw [if_pos h178] at h; exact h) | (rw [if_neg h178] at h; exact h)
    · refine z_al0 eX12_passes_181 hR.ne ?_
      refine z_ra lX12_7 eX12_passes_182 rfl hR rfl ?_
      try rw [zM_n]
      refine z_bipush eX12_passes_185 (by decide) ?_
      refine z_iconst eX12_passes_187 ?_
      refine z_rs eX12_passes_188 hR (by decide) rfl rfl ⟨by omega, by omega⟩ ?_
      first | rw [zM_s] | rw [zM_s0] | skip
      refine z_al0 eX12_passes_189 hR.ne ?_
      refine z_ra lX12_7 eX12_passes_190 rfl hR rfl ?_
      try rw [zM_n]
      refine z_bipush eX12_passes_193 (by decide) ?_
      refine z_sipush eX12_passes_195 (by decide) ?_
      refine z_al0 eX12_passes_198 hR.ne ?_
      refine z_ra lX12_7 eX12_passes_199 rfl hR rfl ?_
      try rw [zM_n]
      refine z_bipush eX12_passes_202 (by decide) ?_
      refine z_rl eX12_passes_204 hR (by decide) rfl rfl ⟨by omega, by omega⟩ ?_
      try rw [zM_1]
      rw [zput_ne (by decide), zput_ne (by decide)]
      refine z_iconst eX12_passes_205 ?_
      refine z_iadd eX12_passes_206 ?_
      refine z_S2 eX12_passes_207 vX12_271 rfl rfl (Nat.le_of_ble_eq_true rfl) (Nat.le_of_ble_eq_true rfl) (m_X12_lesser ⟨⟨by omega, by omega⟩, ⟨by omega, by omega⟩⟩) ?_
      try rw [zM_1]
      refine z_rs eX12_passes_210 hR (by decide) rfl rfl ⟨by omega, by omega⟩ ?_
      first | rw [zM_s] | rw [zM_s0] | skip
      first | (rw [if_pos h178] at h; exact h) | (rw [if_neg h178] at h; exact h)
  have w119 : ∀ (c y : Int), (c = 1 ∧ qComes M2 k ∨ c = 0 ∧ ¬ qComes M2 k) → zW G KX12_passes 68 (zX' (some (zI (zbi (qComes M2 k ∧ qHourOn (qCame M2 k) (74 + 5 * k + 4) = 1)))) (zScr (zM (zset σ 0 25 (σ 0 25 + d)) (qHourOn (qCame M2 k)))) lay C0 nx x) 119 [zP x, zI v, zI s, zI y, zI k, zI c] [] lay (rC x (zM (zset σ 0 25 (σ 0 25 + d)) M2) C0) nx (0, 0) := by
    intro c y hc
    have g11 := hO.1.1.s 11 rfl (by omega)
    by_cases hc1 : c = 1
    · have hcm : qComes M2 k := by rcases hc with h | h; exact h.2; omega
      have hk0 := hcm.1
      have e : qCame M2 k = qLog (zput M2 (74 + 5 * k + 4) (qGo M2 k s (M2 6))) k := by unfold qCame; rw [zif_t hcm, hM25]
      refine z_il5 eX12_passes_119 ?_
      refine z_if_eq (tgt := 158) eX12_passes_121 rfl ⟨by omega, by omega⟩ (fun h121 => (by exfalso; omega)) (fun h121 => ?_)
      refine z_al0 eX12_passes_124 hR.ne ?_
      refine z_ra lX12_7 eX12_passes_125 rfl hR rfl ?_
      try rw [zM_n]
      refine z_bipush eX12_passes_128 (by decide) ?_
      refine z_iconst eX12_passes_130 ?_
      refine z_il4 eX12_passes_131 ?_
      refine z_imul eX12_passes_133 ?_
      refine z_iadd eX12_passes_134 ?_
      refine z_iconst eX12_passes_135 ?_
      refine z_iadd eX12_passes_136 ?_
      refine z_al0 eX12_passes_137 hR.ne ?_
      refine z_il4 eX12_passes_138 ?_
      refine z_il2 eX12_passes_140 ?_
      refine z_al0 eX12_passes_141 hR.ne ?_
      refine z_ra lX12_7 eX12_passes_142 rfl hR rfl ?_
      try rw [zM_n]
      refine z_bipush eX12_passes_145 (by decide) ?_
      refine z_rl eX12_passes_147 hR (by decide) rfl rfl ⟨by omega, by omega⟩ ?_
      try rw [zM_1]
      refine z_V3x eX12_passes_148 vX12_294 rfl rfl (Nat.le_of_ble_eq_true rfl) (Nat.le_of_ble_eq_true rfl) hR.x (m_X12_goesIn hR hS (hJ2 _) hO ⟨by omega, by omega⟩ ⟨by omega, by omega⟩ ⟨by omega, by omega⟩) (fun s148 hs148 => ?_)
      try rw [zM_1]
      refine z_rs eX12_passes_151 hR (by decide) rfl rfl ⟨by omega, by omega⟩ ?_
      first | rw [zM_s] | rw [zM_s0] | skip
      try rw [hs148.r1]
      try rw [zM_1]
      refine z_al0 eX12_passes_152 hR.ne ?_
      refine z_il4 eX12_passes_153 ?_
      refine z_V1v eX12_passes_155 vX12_311 rfl rfl (Nat.le_of_ble_eq_true rfl) (Nat.le_of_ble_eq_true rfl) hR.x (m_X12_logs hR ⟨by omega, by omega⟩ (by rw [zM_1, zput_ne (by omega)]; exact g11)) ?_
      try rw [zM_1]
      try rw [hs148.r1]
      rw [zM_M, ← e]; exact w158 s148 c y (fun M' => by have := hs148.m M'; rwa [zM_M] at this) hc
    · have hcn : ¬ qComes M2 k := by rcases hc with h | h; exact absurd h.1 hc1; exact h.2
      have e : qCame M2 k = M2 := by unfold qCame; rw [zif_f hcn]
      refine z_il5 eX12_passes_119 ?_
      refine z_if_eq (tgt := 158) eX12_passes_121 rfl ⟨by omega, by omega⟩ (fun h121 => ?_) (fun h121 => (by exfalso; omega))
      have h := w158 (zset σ 0 25 (σ 0 25 + d)) c y (fun M' => zScr.refl (hJ2 M')) hc; rw [e] at h; rw [e]; exact h
  have w80 : ∀ (y : Int), zW G KX12_passes 68 (zX' (some (zI (zbi (qComes M2 k ∧ qHourOn (qCame M2 k) (74 + 5 * k + 4) = 1)))) (zScr (zM (zset σ 0 25 (σ 0 25 + d)) (qHourOn (qCame M2 k)))) lay C0 nx x) 80 [zP x, zI v, zI s, zI y, zU, zU] [] lay (rC x (zM (zset σ 0 25 (σ 0 25 + d)) M2) C0) nx (0, 0) := by
    intro y
    have hV4 : k ≠ -1 → _ := fun z => (hO.1.1.V (k := k) ⟨by omega, by omega⟩).2.2.2
    refine z_al0 eX12_passes_80 hR.ne ?_
    refine z_ra lX12_7 eX12_passes_81 rfl hR rfl ?_
    try rw [zM_n]
    refine z_bipush eX12_passes_84 (by decide) ?_
    refine z_al0 eX12_passes_86 hR.ne ?_
    refine z_ra lX12_7 eX12_passes_87 rfl hR rfl ?_
    try rw [zM_n]
    refine z_bipush eX12_passes_90 (by decide) ?_
    refine z_rl eX12_passes_92 hR (by decide) rfl rfl ⟨by omega, by omega⟩ ?_
    try rw [zM_1]
    refine z_iadd eX12_passes_93 ?_
    refine z_rl eX12_passes_94 hR (by decide) rfl rfl ⟨by omega, by omega⟩ ?_
    try rw [zM_1]
    rw [hk]
    refine z_is4 eX12_passes_95 (Nat.ne_of_beq_eq_false rfl) ?_
    refine z_il4 eX12_passes_97 ?_
    refine z_iconst eX12_passes_99 ?_
    refine z_icmp_eq (tgt := 116) eX12_passes_100 rfl ⟨⟨by omega, by omega⟩, ⟨by omega, by omega⟩⟩ (fun h100 => ?_) (fun h100 => ?_)
    · refine z_iconst eX12_passes_116 ?_
      refine z_is5 eX12_passes_117 (Nat.ne_of_beq_eq_false rfl) ?_
      first | exact w119 1 y (Or.inl ⟨rfl, h100, h109⟩) | exact w119 0 y (Or.inr ⟨rfl, fun z => z.1 h100⟩) | exact w119 0 y (Or.inr ⟨rfl, fun z => h109 z.2⟩)
    · have hv4 := hV4 h100
      refine z_al0 eX12_passes_103 hR.ne ?_
      refine z_il4 eX12_passes_104 ?_
      refine z_V1 eX12_passes_106 vX12_308 rfl rfl (Nat.le_of_ble_eq_true rfl) (Nat.le_of_ble_eq_true rfl) hR.x (m_X12_waits hR ⟨by omega, by omega⟩ (by rw [zM_1]; exact ⟨by omega, by omega⟩)) ?_
      try rw [zM_1]
      refine z_ifb_eq (tgt := 116) eX12_passes_109 rfl (fun h109 => ?_) (fun h109 => ?_)
      · refine z_iconst eX12_passes_116 ?_
        refine z_is5 eX12_passes_117 (Nat.ne_of_beq_eq_false rfl) ?_
        first | exact w119 1 y (Or.inl ⟨rfl, h100, h109⟩) | exact w119 0 y (Or.inr ⟨rfl, fun z => z.1 h100⟩) | exact w119 0 y (Or.inr ⟨rfl, fun z => h109 z.2⟩)
      · refine z_iconst eX12_passes_112 ?_
        refine z_goto eX12_passes_113 (tgt := 117) rfl ?_
        refine z_is5 eX12_passes_117 (Nat.ne_of_beq_eq_false rfl) ?_
        first | exact w119 1 y (Or.inl ⟨rfl, h100, h109⟩) | exact w119 0 y (Or.inr ⟨rfl, fun z => z.1 h100⟩) | exact w119 0 y (Or.inr ⟨rfl, fun z => h109 z.2⟩)
  have w29 : ∀ (n : Nat) (q y : Int), q + n = 4 → 0 ≤ q → y = zsum (fun t => σ 1 (13 + 5 * σ 1 5 + t)) (q + 1) → qPickN (fun t => σ 1 (13 + 5 * σ 1 5 + t)) v n q y = s → zW G KX12_passes 68 (zX' (some (zI (zbi (qComes M2 k ∧ qHourOn (qCame M2 k) (74 + 5 * k + 4) = 1)))) (zScr (zM (zset σ 0 25 (σ 0 25 + d)) (qHourOn (qCame M2 k)))) lay C0 nx x) 29 [zP x, zI v, zI q, zI y, zU, zU] [] lay (rC x (zM σ (qSeed (σ 1))) C0) nx (0, 0) := by
    have w54 : ∀ y : Int, zW G KX12_passes 68 (zX' (some (zI (zbi (qComes M2 k ∧ qHourOn (qCame M2 k) (74 + 5 * k + 4) = 1)))) (zScr (zM (zset σ 0 25 (σ 0 25 + d)) (qHourOn (qCame M2 k)))) lay C0 nx x) 54 [zP x, zI v, zI s, zI y, zU, zU] [] lay (rC x (zM σ (qSeed (σ 1))) C0) nx (0, 0) := by
      intro y
      have h := w80 y
      refine z_al0 eX12_passes_54 hR.ne ?_
      refine z_ra lX12_7 eX12_passes_55 rfl hR rfl ?_
      try rw [zM_n]
      refine z_iconst eX12_passes_58 ?_
      refine z_il2 eX12_passes_59 ?_
      refine z_rs eX12_passes_60 hR (by decide) rfl rfl ⟨by omega, by omega⟩ ?_
      first | rw [zM_s] | rw [zM_s0] | skip
      rw [hM2]
      refine z_al0 eX12_passes_61 hR.ne ?_
      refine z_dup eX12_passes_62 (Nat.ne_of_beq_eq_false rfl) ?_
      refine z_rg (j := 25) lX12_305 eX12_passes_63 rfl hR rfl rfl ?_
      try rw [zM_n]
      refine z_il2 eX12_passes_66 ?_
      refine z_iconst eX12_passes_67 ?_
      refine z_icmp_ne (tgt := 75) eX12_passes_68 rfl ⟨⟨by omega, by omega⟩, ⟨by omega, by omega⟩⟩ (fun h68 => ?_) (fun h68 => ?_)
      · refine z_iconst eX12_passes_75 ?_
        refine z_iadd eX12_passes_76 ?_
        refine z_rp (j := 25) lX12_305 eX12_passes_77 rfl hR rfl rfl ?_
        try rw [zM_p]
        first | (rw [if_pos h68] at hd; subst hd; exact h) | (rw [if_neg h68] at hd; subst hd; exact h)
      · refine z_iconst eX12_passes_71 ?_
        refine z_goto eX12_passes_72 (tgt := 76) rfl ?_
        refine z_iadd eX12_passes_76 ?_
        refine z_rp (j := 25) lX12_305 eX12_passes_77 rfl hR rfl rfl ?_
        try rw [zM_p]
        first | (rw [if_pos h68] at hd; subst hd; exact h) | (rw [if_neg h68] at hd; subst hd; exact h)
    intro n
    induction n with
    | zero =>
      intro q y hq h0 hy hr
      have hqs : q = s := hr
      rw [show q + 1 = 5 by omega] at hy
      refine z_il3 eX12_passes_29 ?_
      refine z_il1 eX12_passes_30 ?_
      refine z_icmp_gt (tgt := 54) eX12_passes_31 rfl ⟨⟨by omega, by omega⟩, ⟨by omega, by omega⟩⟩ (fun h31 => ?_) (fun h31 => (by exfalso; omega))
      rw [hqs]; exact w54 y
    | succ n ih =>
      intro q y hq h0 hy hr
      have hy2 := zsum_bnd (f := fun t => σ 1 (13 + 5 * σ 1 5 + t)) (c := 9) (n := q + 1) (by omega) (fun t h0 h1 => hw t h0 (by omega))
      unfold qPickN at hr
      refine z_il3 eX12_passes_29 ?_
      refine z_il1 eX12_passes_30 ?_
      refine z_icmp_gt (tgt := 54) eX12_passes_31 rfl ⟨⟨by omega, by omega⟩, ⟨by omega, by omega⟩⟩ (fun h31 => ?_) (fun h31 => ?_)
      · rw [if_pos (by omega)] at hr
        rw [show q = s from hr]
        exact w54 y
      · refine z_ii2 eX12_passes_34 (Nat.ne_of_beq_eq_false rfl) ?_
        refine z_il3 eX12_passes_37 ?_
        refine z_al0 eX12_passes_38 hR.ne ?_
        refine z_al0 eX12_passes_39 hR.ne ?_
        refine z_ra lX12_7 eX12_passes_40 rfl hR rfl ?_
        try rw [zM_n]
        refine z_iconst eX12_passes_43 ?_
        refine z_rl eX12_passes_44 hR (by decide) rfl rfl ⟨by omega, by omega⟩ ?_
        try rw [zM_1]
        rw [show qSeed (σ 1) 5 = σ 1 5 from zput_ne (by decide)]
        refine z_il2 eX12_passes_45 ?_
        refine z_V2 eX12_passes_46 vX12_59 rfl rfl (Nat.le_of_ble_eq_true rfl) (Nat.le_of_ble_eq_true rfl) hR.x (m_X12_weight hR ⟨by omega, by omega⟩ ⟨by omega, by omega⟩) ?_
        try rw [zM_1]
        rw [show qSeed (σ 1) (13 + 5 * σ 1 5 + (q + 1)) = σ 1 (13 + 5 * σ 1 5 + (q + 1)) from zput_ne (by omega)]
        refine z_iadd eX12_passes_49 ?_
        refine z_is3 eX12_passes_50 (Nat.ne_of_beq_eq_false rfl) ?_
        refine z_goto eX12_passes_51 (tgt := 29) rfl ?_
        rw [if_neg (by omega)] at hr
        exact ih (q + 1) _ (by omega) (by omega) (by rw [zsum_s _ (by omega), ← hy]) hr
  refine z_al0 eX12_passes_0 hR.ne ?_
  refine z_al0 eX12_passes_1 hR.ne ?_
  refine z_al0 eX12_passes_2 hR.ne ?_
  refine z_ra lX12_7 eX12_passes_3 rfl hR rfl ?_
  try rw [zM_n]
  refine z_iconst eX12_passes_6 ?_
  refine z_rl eX12_passes_7 hR (by decide) rfl rfl ⟨by omega, by omega⟩ ?_
  try rw [zM_1]
  refine z_V1 eX12_passes_8 vX12_299 rfl rfl (Nat.le_of_ble_eq_true rfl) (Nat.le_of_ble_eq_true rfl) hR.x (m_X12_weights hR ⟨h5.1, by omega⟩) ?_
  try rw [zM_1]
  refine z_V1 eX12_passes_11 vX12_302 rfl rfl (Nat.le_of_ble_eq_true rfl) (Nat.le_of_ble_eq_true rfl) hR.x (m_X12_draw hR ⟨by omega, by omega⟩) ?_
  try rw [zM_1]
  rw [hv']
  refine z_is1 eX12_passes_14 (Nat.ne_of_beq_eq_false rfl) ?_
  refine z_iconst eX12_passes_15 ?_
  refine z_is2 eX12_passes_16 (Nat.ne_of_beq_eq_false rfl) ?_
  refine z_al0 eX12_passes_17 hR.ne ?_
  refine z_al0 eX12_passes_18 hR.ne ?_
  refine z_ra lX12_7 eX12_passes_19 rfl hR rfl ?_
  try rw [zM_n]
  refine z_iconst eX12_passes_22 ?_
  refine z_rl eX12_passes_23 hR (by decide) rfl rfl ⟨by omega, by omega⟩ ?_
  try rw [zM_1]
  rw [show qSeed (σ 1) 5 = σ 1 5 from zput_ne (by decide)]
  refine z_iconst eX12_passes_24 ?_
  refine z_V2 eX12_passes_25 vX12_59 rfl rfl (Nat.le_of_ble_eq_true rfl) (Nat.le_of_ble_eq_true rfl) hR.x (m_X12_weight hR ⟨by omega, by omega⟩ ⟨by omega, by omega⟩) ?_
  try rw [zM_1]
  rw [show qSeed (σ 1) (13 + 5 * σ 1 5 + 0) = σ 1 (13 + 5 * σ 1 5 + 0) from zput_ne (by omega)]
  refine z_is3 eX12_passes_28 (Nat.ne_of_beq_eq_false rfl) ?_
  exact w29 4 0 _ (by decide) (by decide) (by rw [zsum_s _ (by decide), zsum_0, Int.zero_add]) hs
/-- row, wet hours, carried ones: n hours on -/
noncomputable def qPassS (r : (Int → Int) × Int × Int) : (Int → Int) × Int × Int := (qPassM r.1, r.2.1 + qPassD r.1, r.2.2 + qPassC r.1)
noncomputable def qPassN (M : Int → Int) (n : Int) : (Int → Int) × Int × Int := zfold (fun _ r => qPassS r) (M, 0, 0) n
theorem zfold_P {S : Type} {f : Int → S → S} {P : Int → S → Prop} {s : S} (h0 : P 0 s) (hs : ∀ t r, 0 ≤ t → P t r → P (t + 1) (f t r)) : ∀ n : Int, 0 ≤ n → P n (zfold f s n) := by
  have : ∀ m : Nat, P m (zfold f s m) := by
    intro m
    induction m with
    | zero => exact h0
    | succ m ih =>
      rw [show ((m + 1 : Nat) : Int) = (m : Int) + 1 by omega, zfold_s _ _ (by omega)]
      exact hs m _ (by omega) ih
  intro n hn
  have := this n.toNat
  rwa [Int.toNat_of_nonneg hn] at this
theorem qPassN_OL {M : Int → Int} (h : zOL M) {n : Int} (hn : 0 ≤ n) : zOL (qPassN M n).1 := by
  unfold qPassN
  exact zfold_P (f := fun _ r => qPassS r) (P := fun _ r => zOL r.1) (s := (M, 0, 0)) h (fun _ _ _ h => qPassM_OL h) n hn
theorem qPassC_01 (M : Int → Int) : qPassC M = 0 ∨ qPassC M = 1 := zbi_01 _
theorem qPassD_01 (M : Int → Int) : qPassD M = 0 ∨ qPassD M = 1 := by unfold qPassD; split <;> omega
theorem qPassN_bd {M : Int → Int} {n : Int} (hn : 0 ≤ n) : (0 ≤ (qPassN M n).2.1 ∧ (qPassN M n).2.1 ≤ n) ∧ (0 ≤ (qPassN M n).2.2 ∧ (qPassN M n).2.2 ≤ n) := by
  unfold qPassN
  exact zfold_P (f := fun _ r => qPassS r) (P := fun t r => (0 ≤ r.2.1 ∧ r.2.1 ≤ t) ∧ (0 ≤ r.2.2 ∧ r.2.2 ≤ t)) (s := (M, 0, 0)) ⟨⟨by show (0 : Int) ≤ 0; decide, by show (0 : Int) ≤ 0; decide⟩, ⟨by show (0 : Int) ≤ 0; decide, by show (0 : Int) ≤ 0; decide⟩⟩ (fun t r _ h => by
    have h1 := qPassC_01 r.1
    have h2 := qPassD_01 r.1
    unfold qPassS
    dsimp only
    omega) n hn
theorem m_X12_passesOn {G : zG} {lay : zLay} {σ C0 : zMem} {nx x : Int} {n : Int} (hR : RefL lay x) (hS : TxS lay C0) (hJ : zJs σ) (hM : zOL (σ 1)) (hn : 0 ≤ n ∧ n ≤ 60) : zMM G 69 KX12_passesOn [zP x, zI n] lay (rC x σ C0) nx (0, 0) (zX' (some (zI (qPassN (σ 1) n).2.2)) (zScr (zM (zset σ 0 25 (qPassN (σ 1) n).2.1) (qPassN (σ 1) n).1)) lay C0 nx x) := by
  refine z_met' (L := [zP x, zI n, zU, zU]) gX12_passesOn.1 rfl rfl (Nat.le_of_ble_eq_true rfl) rfl ?_
  have hl : ∀ t : Int, 0 ≤ t → t ≤ n → ∀ S : zMem, zScr (zM (zset σ 0 25 (qPassN (σ 1) t).2.1) (qPassN (σ 1) t).1) S → zW G KX12_passesOn 69 (zX' (some (zI (qPassN (σ 1) n).2.2)) (zScr (zM (zset σ 0 25 (qPassN (σ 1) n).2.1) (qPassN (σ 1) n).1)) lay C0 nx x) 9 [zP x, zI n, zI (qPassN (σ 1) t).2.2, zI t] [] lay (rC x S C0) nx (0, 0) := by
    refine z_up n ?_ ?_
    · intro S hSc
      refine z_il3 eX12_passesOn_9 ?_
      refine z_il1 eX12_passesOn_10 ?_
      refine z_icmp_ge (tgt := 35) eX12_passesOn_11 rfl ⟨⟨by omega, by omega⟩, ⟨by omega, by omega⟩⟩ (fun h11 => ?_) (fun h11 => (by exfalso; omega))
      refine z_il2 eX12_passesOn_35 ?_
      refine z_ireturn eX12_passesOn_36 rfl ?_
      exact zXe hSc rfl
    · intro t h0 h1 ih S hSc
      have hO := qPassN_OL hM h0
      have e : qPassN (σ 1) (t + 1) = (qPassM (qPassN (σ 1) t).1, (qPassN (σ 1) t).2.1 + qPassD (qPassN (σ 1) t).1, (qPassN (σ 1) t).2.2 + qPassC (qPassN (σ 1) t).1) := by unfold qPassN; rw [zfold_s _ _ h0]; rfl
      rw [e] at ih
      generalize qPassN (σ 1) t = r at hSc hO ih ⊢
      have hS1 : S 1 = r.1 := hSc.r1
      have hSn : S 0 25 = r.2.1 := hSc.n25.trans (by rw [zM_n, zset_eq])
      have hc := qPassC_01 r.1
      have hx : ∀ s', zScr (zM (zset S 0 25 (S 0 25 + qPassD (S 1))) (qPassM (S 1))) s' → zScr (zM (zset σ 0 25 (r.2.1 + qPassD r.1)) (qPassM r.1)) s' := by
        intro s' h
        rw [hS1, hSn] at h
        have h2 := (hSc.set (o := 0) (j := 25) (v := r.2.1 + qPassD r.1) (by decide) (fun _ => by unfold zNs; omega)).m (qPassM r.1)
        rw [zM_p, zset_zset, zM_M] at h2
        exact h2.trans h
      have hcall := m_X12_passes (G := G) (nx := nx) hR hS hSc.2.2 (by rw [hS1]; exact hO)
      rw [hS1] at hcall
      refine z_il3 eX12_passesOn_9 ?_
      refine z_il1 eX12_passesOn_10 ?_
      refine z_icmp_ge (tgt := 35) eX12_passesOn_11 rfl ⟨⟨by omega, by omega⟩, ⟨by omega, by omega⟩⟩ (fun h11 => (by exfalso; omega)) (fun h11 => ?_)
      refine z_il2 eX12_passesOn_14 ?_
      refine z_al0 eX12_passesOn_15 hR.ne ?_
      refine z_V0x eX12_passesOn_16 vX12_314 rfl rfl (Nat.le_of_ble_eq_true rfl) (Nat.le_of_ble_eq_true rfl) hR.x (hcall ) (fun s16 hs16 => ?_)
      rw [← hS1] at hs16
      replace hs16 := hx s16 hs16
      refine z_if_eq (tgt := 26) eX12_passesOn_19 rfl ⟨by omega, by omega⟩ (fun h19 => ?_) (fun h19 => ?_)
      · refine z_iconst eX12_passesOn_26 ?_
        refine z_iadd eX12_passesOn_27 ?_
        refine z_is2 eX12_passesOn_28 (Nat.ne_of_beq_eq_false rfl) ?_
        refine z_ii3 eX12_passesOn_29 (Nat.ne_of_beq_eq_false rfl) ?_
        refine z_goto eX12_passesOn_32 (tgt := 9) rfl ?_
        first | (rw [show r.2.2 + qPassC r.1 = r.2.2 + 1 by omega] at ih; exact ih s16 hs16) | (rw [show r.2.2 + qPassC r.1 = r.2.2 + 0 by omega] at ih; exact ih s16 hs16) | fail
      · refine z_iconst eX12_passesOn_22 ?_
        refine z_goto eX12_passesOn_23 (tgt := 27) rfl ?_
        refine z_iadd eX12_passesOn_27 ?_
        refine z_is2 eX12_passesOn_28 (Nat.ne_of_beq_eq_false rfl) ?_
        refine z_ii3 eX12_passesOn_29 (Nat.ne_of_beq_eq_false rfl) ?_
        refine z_goto eX12_passesOn_32 (tgt := 9) rfl ?_
        first | (rw [show r.2.2 + qPassC r.1 = r.2.2 + 1 by omega] at ih; exact ih s16 hs16) | (rw [show r.2.2 + qPassC r.1 = r.2.2 + 0 by omega] at ih; exact ih s16 hs16) | fail
  have h0 := hl 0 (by omega) hn.1
  refine z_iconst eX12_passesOn_0 ?_
  refine z_is2 eX12_passesOn_1 (Nat.ne_of_beq_eq_false rfl) ?_
  refine z_al0 eX12_passesOn_2 hR.ne ?_
  refine z_iconst eX12_passesOn_3 ?_
  refine z_rp (j := 25) lX12_305 eX12_passesOn_4 rfl hR rfl rfl ?_
  refine z_iconst eX12_passesOn_7 ?_
  refine z_is3 eX12_passesOn_8 (Nat.ne_of_beq_eq_false rfl) ?_
  exact h0 _ (by show zScr (zM (zset σ 0 25 0) (σ 1)) _; rw [← zM_p, zM_self]; exact zScr.refl (hJ.set (by decide) (fun _ => by unfold zNs; omega)))
