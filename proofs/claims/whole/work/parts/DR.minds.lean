/-! Minds and bargains: a council with other minds about one motion. -/
theorem qLaw_T {T' T : Int → Int} {e : Int} (h : qAgr T' T e) (he : 0 ≤ e ∧ e ≤ 400) (hT : ∀ k, 0 ≤ k → k < 400 → 0 ≤ T k) {F : Int → Int} {H V : Int} (hF : zFact F) (hH : H = 0 ∨ H = 1) (hV : V = 0 ∨ V = 1) : qLaw T' e (qAtom T' e F H V 6) (0, 0, 0) 0 = qLaw T e (qAtom T e F H V 6) (0, 0, 0) 0 := by
  have hA := qAtom_T h he.2 hT hF hH hV 6
  have hC := fun a a0 a1 => qAtom_bd (T := T) (e := e) hF hH hV he.2 hT 6 a a0 a1
  have hb := qskip_bd (T := T) he.1
  unfold qLaw
  rw [qskip_T h (by decide)]
  by_cases c : qscan qbl T e 0 < e
  · rw [if_pos c, if_pos c]
    exact qLawN_T h he.2 hT hA hC _ _ _ _ (by omega) (by omega)
  · rw [if_neg c, if_neg c]
theorem qAsk_e {M M' : Int → Int} (hM : zOL M) {p s k h : Int} (hp : 0 ≤ p ∧ p < 7) (hs : 0 ≤ s ∧ s < 5) (hk : -1 ≤ k ∧ k < 8) (hh : 0 ≤ h ∧ h < 12) (e1 : M' 1 = M 1) (e2 : M' 2 = M 2) (eT : ∀ i, 0 ≤ i → i < M 2 → M' (426 + i) = M (426 + i)) (hf : qFacts M' p s k h = qFacts M p s k h) (hha : qHat M' p = qHat M p) (hv : qMov M' p k = qMov M p k) : qAsk M' p s k h = qAsk M p s k h := by
  have h2 := hM.1.1.s 2 rfl (by omega)
  unfold qAsk
  rw [e1, e2, hf, hha, hv]
  by_cases z : M 1 < 1
  · rw [if_pos z, if_pos z]
  · rw [if_neg z, if_neg z, qLaw_T (T' := fun i => M' (426 + i)) (T := fun i => M (426 + i)) (e := M 2) eT h2 (fun i i0 i1 => (hM.2 i i0 i1).1) (qFacts_bd hM.1 hp hs hk hh) (qHat_01 _ _) (qMov_01 _ _ _)]
theorem qAsk_fors {M : Int → Int} (hM : zOL M) {c v p s k h : Int} (hc : 0 ≤ c ∧ c < 8) (hp : 0 ≤ p ∧ p < 7) (hs : 0 ≤ s ∧ s < 5) (hk : -1 ≤ k ∧ k < 8) (hh : 0 ≤ h ∧ h < 12) : qAsk (zput M (74 + 5 * c + 3) v) p s k h = qAsk M p s k h := by
  have hU := hM.1.1.U (p := p) hp
  have a0 : zput M (74 + 5 * c + 3) v (46 + 4 * p + 0) = M (46 + 4 * p + 0) := zput_ne (by omega)
  have a1 : zput M (74 + 5 * c + 3) v (46 + 4 * p + 1) = M (46 + 4 * p + 1) := zput_ne (by omega)
  have a2 : zput M (74 + 5 * c + 3) v (46 + 4 * p + 2) = M (46 + 4 * p + 2) := zput_ne (by omega)
  have a3 : zput M (74 + 5 * c + 3) v (38 + M (46 + 4 * p + 0)) = M (38 + M (46 + 4 * p + 0)) := zput_ne (by omega)
  have a4 : zput M (74 + 5 * c + 3) v (74 + 5 * k + 2) = M (74 + 5 * k + 2) := zput_ne (by omega)
  have a5 : zput M (74 + 5 * c + 3) v (74 + 5 * k + 0) = M (74 + 5 * k + 0) := zput_ne (by omega)
  refine qAsk_e hM hp hs hk hh (zput_ne (by omega)) (zput_ne (by omega)) (fun i i0 i1 => zput_ne (by omega)) ?_ ?_ ?_
  · unfold qFacts; rw [a0, a1, a3, a4]
  · unfold qHat; rw [a2]
  · unfold qMov; rw [a5]
theorem qOuts_fors {M : Int → Int} (hI : zInv M) {c v : Int} (hc : 0 ≤ c ∧ c < 8) : qOuts (zput M (74 + 5 * c + 3) v) = qOuts M := by
  have h3 := hI.m3
  unfold qOuts
  rw [zput_ne (j := 3) (by omega)]
  exact zors_congr (fun t t0 t1 => by rw [zput_ne (by omega)])
theorem qGoO_fors {M : Int → Int} (hM : zOC M) {c v k s h O Fo : Int} (hc : 0 ≤ c ∧ c < 8) (hk : 0 ≤ k ∧ k < 8) (hs : 0 ≤ s ∧ s < 5) (hh : 0 ≤ h ∧ h < 12) : qGoO (zput M (74 + 5 * c + 3) v) k s h O Fo = qGoO M k s h O Fo := by
  have hI := hM.I
  have h3 := hI.m3
  have hV := hI.V hk
  have hU := hI.U (p := M (74 + 5 * k + 0)) ⟨hV.1.1, by omega⟩
  have f : ∀ j, (j < 74 ∨ 114 ≤ j) → zput M (74 + 5 * c + 3) v j = M j := fun j hj => zput_ne (by omega)
  have a5 : zput M (74 + 5 * c + 3) v (74 + 5 * k + 0) = M (74 + 5 * k + 0) := zput_ne (by omega)
  have ea := qAsk_fors hM.ol (v := v) hc (p := M (74 + 5 * k + 0)) (k := k) ⟨hV.1.1, by omega⟩ hs ⟨by omega, by omega⟩ hh
  have es : ∀ set, qSeat (zput M (74 + 5 * c + 3) v) set (M 3) = qSeat M set (M 3) := fun set => zsum_congr (fun t t0 t1 => by rw [f _ (by omega)])
  have el : qLapse (zput M (74 + 5 * c + 3) v) k s h = qLapse M k s h := by unfold qLapse; rw [a5, ea]
  have ef : qFeltO (zput M (74 + 5 * c + 3) v) (M (74 + 5 * k + 0)) s k h O = qFeltO M (M (74 + 5 * k + 0)) s k h O := by unfold qFeltO; rw [ea, f 1 (by omega), f (46 + 4 * M (74 + 5 * k + 0) + 2) (by omega), f (46 + 4 * M (74 + 5 * k + 0) + 0) (by omega), f (38 + M (46 + 4 * M (74 + 5 * k + 0) + 0)) (by omega)]
  have ev : ∀ a, qVoteO (zput M (74 + 5 * c + 3) v) a s O Fo = qVoteO M a s O Fo := by intro a; unfold qVoteO; rw [f 3 (by omega), f 10 (by omega), es, es]
  unfold qGoO
  rw [el, a5, ef, ev, f 8 (by omega), f 9 (by omega)]
theorem qWetBy_O {M : Int → Int} (hM : zOC M) {k : Int} (hk : 0 ≤ k ∧ k < M 4) (v : Int) : qWetBy M k v ↔ qGoO M k 2 (M 6) (qOuts M) v = 1 := by
  have hI := hM.I
  have h4 := hI.m4
  have h6 := hI.s 6 rfl (by omega)
  have hk8 : 0 ≤ k ∧ k < 8 := by omega
  have hz := (hM.ol.fors (v := v) hk8).1
  have hm := hM.mb hk
  have e := qGoO_q hz (k := k) (by rw [zput_ne (by omega), zput_ne (j := 3) (by omega)]; exact hm) 2 (M 6)
  rw [qOuts_fors hI hk8, zput_eq, qGoO_fors hM hk8 hk8 ⟨by decide, by decide⟩ ⟨h6.1, by omega⟩] at e
  unfold qWetBy
  rw [e]
theorem qMinds_s (M : Int → Int) (k : Int) {n : Int} (hn : 0 ≤ n) : qMinds M k (n + 1) = zif (zand n (zxor (qOuts M) (-1)) = 0 ∧ (qMinds M k n = -1 ∨ qbits n < qbits (qMinds M k n)) ∧ qWetBy M k (zxor (M (74 + 5 * k + 3)) n)) n (qMinds M k n) := by unfold qMinds; rw [zfold_s _ _ hn]
theorem qMinds_no {M : Int → Int} {k : Int} (h : ∀ v, ¬ qWetBy M k v) : ∀ n : Nat, qMinds M k n = -1 := by
  intro n
  induction n with
  | zero => rfl
  | succ n ih =>
    rw [show ((n + 1 : Nat) : Int) = (n : Int) + 1 by omega, qMinds_s M k (by omega), zif_f (fun z => h _ z.2.2), ih]
theorem qOuts_far {M : Int → Int} (hM : zOK M) {u : Int} (h0 : 0 ≤ u ∧ u < 128) (h1 : zshl 1 (M 3) ≤ u) : ¬ zand u (zxor (qOuts M) (-1)) = 0 := by
  have h3 := hM.1.m3
  intro h
  rw [zand_0] at h
  have hb := zB_of (x := u) (n := (M 3).toNat) ⟨by omega, by omega⟩ (by omega) (fun k k0 k1 => by
    cases e : zB u k with
    | false => rfl
    | true =>
      have := (qOuts_B hM (p := k) ⟨by omega, by omega⟩).mp (h k (by omega) (by omega) ((zbit_B1 (by omega) (by omega)).mpr (by rw [Int.toNat_natCast]; exact e)))
      omega)
  have hs := zshl_1 (M 3).toNat (by omega)
  rw [Int.toNat_of_nonneg h3.1] at hs
  omega
theorem qMinds_cut {M : Int → Int} (hM : zOK M) (k : Int) : qMinds M k 128 = qMinds M k (zshl 1 (M 3)) := by
  have h3 := hM.1.m3
  have hb := zshl_128 (M 3).toNat (by omega)
  rw [Int.toNat_of_nonneg h3.1] at hb
  have h : ∀ d : Nat, zshl 1 (M 3) + d ≤ 128 → qMinds M k (zshl 1 (M 3) + d) = qMinds M k (zshl 1 (M 3)) := by
    intro d
    induction d with
    | zero => intro _; rw [show zshl 1 (M 3) + ((0 : Nat) : Int) = zshl 1 (M 3) by omega]
    | succ d ih =>
      intro hd
      rw [show zshl 1 (M 3) + ((d + 1 : Nat) : Int) = (zshl 1 (M 3) + d) + 1 by omega, qMinds_s M k (by omega), zif_f (fun z => qOuts_far hM ⟨by omega, by omega⟩ (by omega) z.1), ih (by omega)]
  have := h (128 - zshl 1 (M 3)).toNat (by omega)
  rwa [show zshl 1 (M 3) + ((128 - zshl 1 (M 3)).toNat : Int) = 128 by omega] at this
theorem c_X11_minds {G : zG} {lay : zLay} {σ C0 : zMem} {nx x : Int} (hT : TopL lay x) {k : Int} {M : Int → Int} (hR : CoR lay x C0 σ (0 + 2) M) (hM : zOC M) (hk : zin k) : zMM G 8 KX11_minds [zP (x + 0), zI k] lay (tC x σ C0) nx (1, 6) (zGd (0 ≤ k ∧ k < M 4) zEb lay (tC x σ C0) nx (zY' (some (zI (qMinds M k 128))) (fun q C => zFc (0 + 2) σ C0 q C) lay nx x)) := by
  refine z_met' (L := [zP (x + 0), zI k, zU, zU, zU, zU, zU, zU]) gX11_minds.1 rfl rfl (Nat.le_of_ble_eq_true rfl) rfl ?_
  have hA := TpAt
  have hx := hT.1
  have hne : x + 0 ≠ -1 := by omega
  have hD := isCo.now
  have hI := hM.I
  have hm3 := hI.m3
  have hm4 := hI.m4
  have h6 := hI.s 6 rfl (by omega)
  have h8 := hI.s 8 rfl (by omega)
  have h9 := hI.s 9 rfl (by omega)
  have ho := qOuts_256 hM.ol.1
  have hqb := qbits_bd (qOuts M)
  have hsb := zshl_128 (M 3).toNat (by omega)
  rw [Int.toNat_of_nonneg hm3.1] at hsb
  have hl : ∀ (Q : zQ) (S C : zMem), CoR lay x C S (0 + 2) M → Q (.inl (some (zI (qMinds M k (zshl 1 (M 3)))))) lay (tC x S C) nx → 0 ≤ k ∧ k < M 4 → ∀ a, (a = 0 ∨ a = 1) → (∀ v, qWetBy M k v ↔ qVoteO M a 2 (qOuts M) v = 1) → ∀ t : Int, 0 ≤ t → t ≤ zshl 1 (M 3) → ∀ (m : Int) (y1 y2 : zAV), m = (if qMinds M k t = -1 then 8 else qbits (qMinds M k t)) → zW G KX11_minds 8 Q 106 [zP (x + 0), zI k, y1, zI a, zI m, zI (qMinds M k t), zI t, y2] [] lay (tC x S C) nx (0, 0) := by
    intro Q S C hRS hq hk1 a ha hw
    refine z_up (zshl 1 (M 3)) ?_ ?_
    · intro m y1 y2 hm
      refine z_il6 eX11_minds_106 ?_
      refine z_iconst eX11_minds_108 ?_
      refine z_al0 eX11_minds_109 hne ?_
      first | refine z_ta0 lX11_20 eX11_minds_110 rfl hT hA (by decide) rfl rfl ?_ | refine z_ta lX11_20 eX11_minds_110 rfl hT hA ⟨by decide, by decide⟩ rfl rfl ?_
      first | refine z_tg0 (j := 1) lX11_321 eX11_minds_113 rfl hT hD (by decide) rfl rfl rfl ?_ | refine z_tg (j := 1) lX11_321 eX11_minds_113 rfl hT hD ⟨by decide, by decide⟩ rfl rfl rfl ?_
      rw [hRS.1.n3]
      refine z_ishl eX11_minds_116 ?_
      refine z_icmp_ge (tgt := 201) eX11_minds_117 rfl ⟨⟨by omega, by omega⟩, ⟨by omega, by omega⟩⟩ (fun h117 => ?_) (fun h117 => (by exfalso; omega))
      refine z_il5 eX11_minds_201 ?_
      refine z_ireturn eX11_minds_203 rfl ?_
      exact hq
    · intro t t0 t1 ih m y1 y2 hm
      have hu := qbits_127 t.toNat (by omega)
      rw [Int.toNat_of_nonneg t0] at hu
      have hu0 := qbits_bd t
      have hmb := qMinds_bd M k t0
      have hw1 := hw (zxor (M (74 + 5 * k + 3)) t)
      have hv12 := qVoteO_12 M a 2 (qOuts M) (zxor (M (74 + 5 * k + 3)) t)
      rw [qMinds_s M k t0] at ih
      generalize qMinds M k t = f at ih hm hmb ⊢
      have hfb := qbits_bd f
      have hza := zand_in t (zxor (qOuts M) (-1))
      refine z_il6 eX11_minds_106 ?_
      refine z_iconst eX11_minds_108 ?_
      refine z_al0 eX11_minds_109 hne ?_
      first | refine z_ta0 lX11_20 eX11_minds_110 rfl hT hA (by decide) rfl rfl ?_ | refine z_ta lX11_20 eX11_minds_110 rfl hT hA ⟨by decide, by decide⟩ rfl rfl ?_
      first | refine z_tg0 (j := 1) lX11_321 eX11_minds_113 rfl hT hD (by decide) rfl rfl rfl ?_ | refine z_tg (j := 1) lX11_321 eX11_minds_113 rfl hT hD ⟨by decide, by decide⟩ rfl rfl rfl ?_
      rw [hRS.1.n3]
      refine z_ishl eX11_minds_116 ?_
      refine z_icmp_ge (tgt := 201) eX11_minds_117 rfl ⟨⟨by omega, by omega⟩, ⟨by omega, by omega⟩⟩ (fun h117 => (by exfalso; omega)) (fun h117 => ?_)
      refine z_il6 eX11_minds_120 ?_
      refine z_S1 eX11_minds_122 vX11_276 rfl rfl (Nat.le_of_ble_eq_true rfl) (Nat.le_of_ble_eq_true rfl) (c_J6_bitCount_0f7a4 ⟨t0, by omega⟩) ?_
      refine z_is7 eX11_minds_125 (Nat.ne_of_beq_eq_false rfl) ?_
      refine z_il6 eX11_minds_127 ?_
      refine z_al0 eX11_minds_129 hne ?_
      first | refine z_ta0 lX11_20 eX11_minds_130 rfl hT hA (by decide) rfl rfl ?_ | refine z_ta lX11_20 eX11_minds_130 rfl hT hA ⟨by decide, by decide⟩ rfl rfl ?_
      first | refine z_tg0 (j := 5) lX11_147 eX11_minds_133 rfl hT hD (by decide) rfl rfl rfl ?_ | refine z_tg (j := 5) lX11_147 eX11_minds_133 rfl hT hD ⟨by decide, by decide⟩ rfl rfl rfl ?_
      rw [hRS.1.ou]
      refine z_iconst eX11_minds_136 ?_
      refine z_ixor eX11_minds_137 ?_
      refine z_iand eX11_minds_138 ?_
      refine z_if_ne (tgt := 195) eX11_minds_139 rfl hza (fun h139 => ?_) (fun h139 => ?_)
      · refine z_ii6 eX11_minds_195 (Nat.ne_of_beq_eq_false rfl) ?_
        refine z_goto eX11_minds_198 (tgt := 106) rfl ?_
        first | (have e3 := h184; first | (rw [zif_t ⟨h139, by by_cases y : f = -1; exact Or.inl y; rw [if_neg y] at hm; exact Or.inr (by omega), hw1.mpr (by omega)⟩] at ih; exact ih _ _ _ (by rw [if_neg (by omega)])) | (rw [zif_f (fun z => by have := hw1.mp z.2.2; omega)] at ih; exact ih _ _ _ hm)) | (have e3 := h146; rw [zif_f (fun z => by rcases z.2.1 with y | y; rw [if_pos y] at hm; omega; by_cases y2 : f = -1; rw [if_pos y2] at hm; omega; rw [if_neg y2] at hm; omega)] at ih; exact ih _ _ _ hm) | (rw [zif_f (fun z => h139 z.1)] at ih; exact ih _ _ _ hm) | fail
      · refine z_il7 eX11_minds_142 ?_
        refine z_il4 eX11_minds_144 ?_
        refine z_icmp_lt (tgt := 152) eX11_minds_146 rfl ⟨⟨by omega, by omega⟩, ⟨by omega, by omega⟩⟩ (fun h146 => ?_) (fun h146 => ?_)
        · refine z_al0 eX11_minds_152 hne ?_
          first | refine z_ta0 lX11_20 eX11_minds_153 rfl hT hA (by decide) rfl rfl ?_ | refine z_ta lX11_20 eX11_minds_153 rfl hT hA ⟨by decide, by decide⟩ rfl rfl ?_
          refine z_il3 eX11_minds_156 ?_
          refine z_iconst eX11_minds_157 ?_
          refine z_al0 eX11_minds_158 hne ?_
          first | refine z_ta0 lX11_20 eX11_minds_159 rfl hT hA (by decide) rfl rfl ?_ | refine z_ta lX11_20 eX11_minds_159 rfl hT hA ⟨by decide, by decide⟩ rfl rfl ?_
          first | refine z_tg0 (j := 5) lX11_147 eX11_minds_162 rfl hT hD (by decide) rfl rfl rfl ?_ | refine z_tg (j := 5) lX11_147 eX11_minds_162 rfl hT hD ⟨by decide, by decide⟩ rfl rfl rfl ?_
          rw [hRS.1.ou]
          refine z_al0 eX11_minds_165 hne ?_
          first | refine z_ta0 lX11_20 eX11_minds_166 rfl hT hA (by decide) rfl rfl ?_ | refine z_ta lX11_20 eX11_minds_166 rfl hT hA ⟨by decide, by decide⟩ rfl rfl ?_
          first | refine z_ta0 lX11_154 eX11_minds_169 rfl hT hD (by decide) rfl rfl ?_ | refine z_ta lX11_154 eX11_minds_169 rfl hT hD ⟨by decide, by decide⟩ rfl rfl ?_
          first | refine z_ta0 lX11_180 eX11_minds_172 rfl hT hD.mo (by decide) rfl rfl ?_ | refine z_ta lX11_180 eX11_minds_172 rfl hT hD.mo ⟨by decide, by decide⟩ rfl rfl ?_
          refine z_il1 eX11_minds_175 ?_
          refine z_tl eX11_minds_176 hT hD.mo ⟨by decide, by decide⟩ rfl rfl ⟨by omega, by omega⟩ ?_
          rw [(hRS.1.mo.2.1 k hk1.1 hk1.2).2.2.2.1]
          refine z_il6 eX11_minds_177 ?_
          refine z_ixor eX11_minds_179 ?_
          refine z_V4 eX11_minds_180 vX11_377 rfl rfl (Nat.le_of_ble_eq_true rfl) (Nat.le_of_ble_eq_true rfl) ((hD).L0 hT (by decide)) (c_X1_byVotes hT hD hRS.1 hI ha ⟨by decide, by decide⟩) ?_
          refine z_iconst eX11_minds_183 ?_
          refine z_icmp_ne (tgt := 195) eX11_minds_184 rfl ⟨⟨by omega, by omega⟩, ⟨by omega, by omega⟩⟩ (fun h184 => ?_) (fun h184 => ?_)
          · refine z_ii6 eX11_minds_195 (Nat.ne_of_beq_eq_false rfl) ?_
            refine z_goto eX11_minds_198 (tgt := 106) rfl ?_
            first | (have e3 := h184; first | (rw [zif_t ⟨h139, by by_cases y : f = -1; exact Or.inl y; rw [if_neg y] at hm; exact Or.inr (by omega), hw1.mpr (by omega)⟩] at ih; exact ih _ _ _ (by rw [if_neg (by omega)])) | (rw [zif_f (fun z => by have := hw1.mp z.2.2; omega)] at ih; exact ih _ _ _ hm)) | (have e3 := h146; rw [zif_f (fun z => by rcases z.2.1 with y | y; rw [if_pos y] at hm; omega; by_cases y2 : f = -1; rw [if_pos y2] at hm; omega; rw [if_neg y2] at hm; omega)] at ih; exact ih _ _ _ hm) | (rw [zif_f (fun z => h139 z.1)] at ih; exact ih _ _ _ hm) | fail
          · refine z_il7 eX11_minds_187 ?_
            refine z_is4 eX11_minds_189 (Nat.ne_of_beq_eq_false rfl) ?_
            refine z_il6 eX11_minds_191 ?_
            refine z_is5 eX11_minds_193 (Nat.ne_of_beq_eq_false rfl) ?_
            refine z_ii6 eX11_minds_195 (Nat.ne_of_beq_eq_false rfl) ?_
            refine z_goto eX11_minds_198 (tgt := 106) rfl ?_
            first | (have e3 := h184; first | (rw [zif_t ⟨h139, by by_cases y : f = -1; exact Or.inl y; rw [if_neg y] at hm; exact Or.inr (by omega), hw1.mpr (by omega)⟩] at ih; exact ih _ _ _ (by rw [if_neg (by omega)])) | (rw [zif_f (fun z => by have := hw1.mp z.2.2; omega)] at ih; exact ih _ _ _ hm)) | (have e3 := h146; rw [zif_f (fun z => by rcases z.2.1 with y | y; rw [if_pos y] at hm; omega; by_cases y2 : f = -1; rw [if_pos y2] at hm; omega; rw [if_neg y2] at hm; omega)] at ih; exact ih _ _ _ hm) | (rw [zif_f (fun z => h139 z.1)] at ih; exact ih _ _ _ hm) | fail
        · refine z_goto eX11_minds_149 (tgt := 195) rfl ?_
          refine z_ii6 eX11_minds_195 (Nat.ne_of_beq_eq_false rfl) ?_
          refine z_goto eX11_minds_198 (tgt := 106) rfl ?_
          first | (have e3 := h184; first | (rw [zif_t ⟨h139, by by_cases y : f = -1; exact Or.inl y; rw [if_neg y] at hm; exact Or.inr (by omega), hw1.mpr (by omega)⟩] at ih; exact ih _ _ _ (by rw [if_neg (by omega)])) | (rw [zif_f (fun z => by have := hw1.mp z.2.2; omega)] at ih; exact ih _ _ _ hm)) | (have e3 := h146; rw [zif_f (fun z => by rcases z.2.1 with y | y; rw [if_pos y] at hm; omega; by_cases y2 : f = -1; rw [if_pos y2] at hm; omega; rw [if_neg y2] at hm; omega)] at ih; exact ih _ _ _ hm) | (rw [zif_f (fun z => h139 z.1)] at ih; exact ih _ _ _ hm) | fail
  have hno : 0 ≤ k ∧ k < M 4 → (qLapse M k 2 (M 6) = 1 ∨ qbits (qOuts M) < M 8) → qMinds M k 128 = -1 := by
    intro hk1 hz
    refine qMinds_no (fun v hv => ?_) 128
    rw [qWetBy_O hM hk1] at hv
    unfold qGoO at hv
    rcases hz with z | z
    · rw [if_pos z] at hv; omega
    · split at hv
      · omega
      · first | omega | (rw [if_pos z] at hv; omega)
  have hyes : 0 ≤ k ∧ k < M 4 → ¬ qLapse M k 2 (M 6) = 1 → ¬ qbits (qOuts M) < M 8 → ∀ a, a = (if M 9 ≤ qFeltO M (M (74 + 5 * k + 0)) 2 k (M 6) (qOuts M) then 1 else 0) → ∀ v, qWetBy M k v ↔ qVoteO M a 2 (qOuts M) v = 1 := by
    intro hk1 z1 z2 a ha v
    rw [qWetBy_O hM hk1]
    unfold qGoO
    rw [if_neg z1, if_neg z2, ha]
  have hlap : 0 ≤ k ∧ k < M 4 → _ := fun hk1 => qLapse_01 hM.ol (k := k) (s := 2) (h := M 6) ⟨hk1.1, by omega⟩ ⟨by decide, by decide⟩ ⟨h6.1, by omega⟩
  have hfb := qFeltO_bd M (M (74 + 5 * k + 0)) 2 k (M 6) (qOuts M)
  rw [qMinds_cut hM.ol.1] at hno ⊢
  refine z_al0 eX11_minds_0 hne ?_
  refine z_il1 eX11_minds_1 ?_
  refine z_ndV1 (n := 0) eX11_minds_2 vX11_168 rfl rfl (Nat.le_of_ble_eq_true rfl) (Nat.le_of_ble_eq_true rfl) (hA.L0 hT (by decide)) (c_X11_needMotion hT hR.1 hM (by assumption)) (fun hP2 => ?_) (fun hN2 => (by first | exact Or.inr ⟨(by first | assumption | exact ⟨by omega, by omega⟩ | omega), rfl, rfl, rfl, rfl⟩))
  refine z_al0 eX11_minds_5 hne ?_
  first | refine z_ta0 lX11_20 eX11_minds_6 rfl hT hA (by decide) rfl rfl ?_ | refine z_ta lX11_20 eX11_minds_6 rfl hT hA ⟨by decide, by decide⟩ rfl rfl ?_
  first | refine z_ta0 lX11_194 eX11_minds_9 rfl hT hD (by decide) rfl rfl ?_ | refine z_ta lX11_194 eX11_minds_9 rfl hT hD ⟨by decide, by decide⟩ rfl rfl ?_
  first | refine z_tg0 (j := 1) lX11_215 eX11_minds_12 rfl hT hD.we (by decide) rfl rfl rfl ?_ | refine z_tg (j := 1) lX11_215 eX11_minds_12 rfl hT hD.we ⟨by decide, by decide⟩ rfl rfl rfl ?_
  rw [hR.1.we.1.2.1]
  refine z_is2 eX11_minds_15 (Nat.ne_of_beq_eq_false rfl) ?_
  refine z_al0 eX11_minds_16 hne ?_
  first | refine z_ta0 lX11_20 eX11_minds_17 rfl hT hA (by decide) rfl rfl ?_ | refine z_ta lX11_20 eX11_minds_17 rfl hT hA ⟨by decide, by decide⟩ rfl rfl ?_
  refine z_il1 eX11_minds_20 ?_
  refine z_iconst eX11_minds_21 ?_
  refine z_il2 eX11_minds_22 ?_
  refine z_V3y eX11_minds_23 vX11_367 rfl rfl (Nat.le_of_ble_eq_true rfl) (Nat.le_of_ble_eq_true rfl) ((hD).L0 hT (by decide)) (c_X1_lapsesIn hT hD hR.1 hR.2 hM ⟨by decide, by decide⟩ hP2 ⟨h6.1, by omega⟩) (fun s23 C23 hs23 => ?_)
  have hl01 := hlap hP2
  have hR1 := hR.fc hs23
  have hmb := hM.mb hP2
  refine z_if_ne (tgt := 49) eX11_minds_26 rfl ⟨by omega, by omega⟩ (fun h26 => ?_) (fun h26 => ?_)
  · refine z_iconst eX11_minds_49 ?_
    refine z_ireturn eX11_minds_50 rfl ?_
    rw [hno hP2 (by first | exact Or.inl (by omega) | exact Or.inr (by omega))]
    exact Or.inl ⟨hP2, zYe hs23 rfl⟩
  · refine z_al0 eX11_minds_29 hne ?_
    first | refine z_ta0 lX11_20 eX11_minds_30 rfl hT hA (by decide) rfl rfl ?_ | refine z_ta lX11_20 eX11_minds_30 rfl hT hA ⟨by decide, by decide⟩ rfl rfl ?_
    first | refine z_tg0 (j := 5) lX11_147 eX11_minds_33 rfl hT hD (by decide) rfl rfl rfl ?_ | refine z_tg (j := 5) lX11_147 eX11_minds_33 rfl hT hD ⟨by decide, by decide⟩ rfl rfl rfl ?_
    rw [hR1.1.ou]
    refine z_S1 eX11_minds_36 vX11_276 rfl rfl (Nat.le_of_ble_eq_true rfl) (Nat.le_of_ble_eq_true rfl) (c_J6_bitCount_0f7a4 ⟨by omega, by omega⟩) ?_
    refine z_al0 eX11_minds_39 hne ?_
    first | refine z_ta0 lX11_20 eX11_minds_40 rfl hT hA (by decide) rfl rfl ?_ | refine z_ta lX11_20 eX11_minds_40 rfl hT hA ⟨by decide, by decide⟩ rfl rfl ?_
    first | refine z_tg0 (j := 7) lX11_371 eX11_minds_43 rfl hT hD (by decide) rfl rfl rfl ?_ | refine z_tg (j := 7) lX11_371 eX11_minds_43 rfl hT hD ⟨by decide, by decide⟩ rfl rfl rfl ?_
    rw [hR1.1.n8]
    refine z_icmp_ge (tgt := 51) eX11_minds_46 rfl ⟨⟨by omega, by omega⟩, ⟨by omega, by omega⟩⟩ (fun h46 => ?_) (fun h46 => ?_)
    · refine z_al0 eX11_minds_51 hne ?_
      first | refine z_ta0 lX11_20 eX11_minds_52 rfl hT hA (by decide) rfl rfl ?_ | refine z_ta lX11_20 eX11_minds_52 rfl hT hA ⟨by decide, by decide⟩ rfl rfl ?_
      refine z_al0 eX11_minds_55 hne ?_
      first | refine z_ta0 lX11_20 eX11_minds_56 rfl hT hA (by decide) rfl rfl ?_ | refine z_ta lX11_20 eX11_minds_56 rfl hT hA ⟨by decide, by decide⟩ rfl rfl ?_
      first | refine z_ta0 lX11_154 eX11_minds_59 rfl hT hD (by decide) rfl rfl ?_ | refine z_ta lX11_154 eX11_minds_59 rfl hT hD ⟨by decide, by decide⟩ rfl rfl ?_
      first | refine z_ta0 lX11_171 eX11_minds_62 rfl hT hD.mo (by decide) rfl rfl ?_ | refine z_ta lX11_171 eX11_minds_62 rfl hT hD.mo ⟨by decide, by decide⟩ rfl rfl ?_
      refine z_il1 eX11_minds_65 ?_
      refine z_tl eX11_minds_66 hT hD.mo ⟨by decide, by decide⟩ rfl rfl ⟨by omega, by omega⟩ ?_
      rw [(hR1.1.mo.2.1 k hP2.1 hP2.2).1]
      refine z_iconst eX11_minds_67 ?_
      refine z_il1 eX11_minds_68 ?_
      refine z_il2 eX11_minds_69 ?_
      refine z_al0 eX11_minds_70 hne ?_
      first | refine z_ta0 lX11_20 eX11_minds_71 rfl hT hA (by decide) rfl rfl ?_ | refine z_ta lX11_20 eX11_minds_71 rfl hT hA ⟨by decide, by decide⟩ rfl rfl ?_
      first | refine z_tg0 (j := 5) lX11_147 eX11_minds_74 rfl hT hD (by decide) rfl rfl rfl ?_ | refine z_tg (j := 5) lX11_147 eX11_minds_74 rfl hT hD ⟨by decide, by decide⟩ rfl rfl rfl ?_
      rw [hR1.1.ou]
      refine z_V5y eX11_minds_77 vX11_218 rfl rfl (Nat.le_of_ble_eq_true rfl) (Nat.le_of_ble_eq_true rfl) ((hD).L0 hT (by decide)) (c_X1_feels hT hD hR1.1 hR1.2 hM.ol hmb ⟨by decide, by decide⟩ (Or.inr hP2) ⟨h6.1, by omega⟩) (fun s77 C77 hs77 => ?_)
      have hR2 := hR1.fc hs77
      refine z_al0 eX11_minds_80 hne ?_
      first | refine z_ta0 lX11_20 eX11_minds_81 rfl hT hA (by decide) rfl rfl ?_ | refine z_ta lX11_20 eX11_minds_81 rfl hT hA ⟨by decide, by decide⟩ rfl rfl ?_
      first | refine z_tg0 (j := 8) lX11_374 eX11_minds_84 rfl hT hD (by decide) rfl rfl rfl ?_ | refine z_tg (j := 8) lX11_374 eX11_minds_84 rfl hT hD ⟨by decide, by decide⟩ rfl rfl rfl ?_
      rw [hR2.1.n9]
      refine z_icmp_lt (tgt := 94) eX11_minds_87 rfl ⟨⟨by omega, by omega⟩, ⟨by omega, by omega⟩⟩ (fun h87 => ?_) (fun h87 => ?_)
      · refine z_iconst eX11_minds_94 ?_
        refine z_is3 eX11_minds_95 (Nat.ne_of_beq_eq_false rfl) ?_
        refine z_bipush eX11_minds_96 (by decide) ?_
        refine z_is4 eX11_minds_98 (Nat.ne_of_beq_eq_false rfl) ?_
        refine z_iconst eX11_minds_100 ?_
        refine z_is5 eX11_minds_101 (Nat.ne_of_beq_eq_false rfl) ?_
        refine z_iconst eX11_minds_103 ?_
        refine z_is6 eX11_minds_104 (Nat.ne_of_beq_eq_false rfl) ?_
        first | exact hl _ _ _ hR2 (Or.inl ⟨hP2, zYe (zFc.trans hs23 hs77) rfl⟩) hP2 1 (Or.inr rfl) (hyes hP2 (by omega) (by omega) 1 (by rw [if_pos (by omega)])) 0 (by decide) (by omega) _ _ _ rfl | exact hl _ _ _ hR2 (Or.inl ⟨hP2, zYe (zFc.trans hs23 hs77) rfl⟩) hP2 0 (Or.inl rfl) (hyes hP2 (by omega) (by omega) 0 (by rw [if_neg (by omega)])) 0 (by decide) (by omega) _ _ _ rfl | fail
      · refine z_iconst eX11_minds_90 ?_
        refine z_goto eX11_minds_91 (tgt := 95) rfl ?_
        refine z_is3 eX11_minds_95 (Nat.ne_of_beq_eq_false rfl) ?_
        refine z_bipush eX11_minds_96 (by decide) ?_
        refine z_is4 eX11_minds_98 (Nat.ne_of_beq_eq_false rfl) ?_
        refine z_iconst eX11_minds_100 ?_
        refine z_is5 eX11_minds_101 (Nat.ne_of_beq_eq_false rfl) ?_
        refine z_iconst eX11_minds_103 ?_
        refine z_is6 eX11_minds_104 (Nat.ne_of_beq_eq_false rfl) ?_
        first | exact hl _ _ _ hR2 (Or.inl ⟨hP2, zYe (zFc.trans hs23 hs77) rfl⟩) hP2 1 (Or.inr rfl) (hyes hP2 (by omega) (by omega) 1 (by rw [if_pos (by omega)])) 0 (by decide) (by omega) _ _ _ rfl | exact hl _ _ _ hR2 (Or.inl ⟨hP2, zYe (zFc.trans hs23 hs77) rfl⟩) hP2 0 (Or.inl rfl) (hyes hP2 (by omega) (by omega) 0 (by rw [if_neg (by omega)])) 0 (by decide) (by omega) _ _ _ rfl | fail
    · refine z_iconst eX11_minds_49 ?_
      refine z_ireturn eX11_minds_50 rfl ?_
      rw [hno hP2 (by first | exact Or.inl (by omega) | exact Or.inr (by omega))]
      exact Or.inl ⟨hP2, zYe hs23 rfl⟩
