/-! Bargains. -/
theorem zors_ifB {P : Int → Prop} {f : Int → Int} {n : Int} (hn : 0 ≤ n ∧ n ≤ 31) (h1 : ∀ t, 0 ≤ t → t < n → P t → f t = zshl 1 t) (h0 : ∀ t, 0 ≤ t → t < n → ¬ P t → f t = 0) {i : Int} (hi : 0 ≤ i ∧ i < 32) : zbit (zors f n) i = 1 ↔ i < n ∧ P i := by
  rw [zbit_B1 hi.1 hi.2, zB_zors _ hn.1]
  constructor
  · rintro ⟨t, ⟨t0, t1⟩, h⟩
    by_cases e : P t
    · rw [h1 t t0 t1 e, zB_shl1 t0 (by omega) (by omega), decide_eq_true_iff, Int.toNat_of_nonneg hi.1] at h
      rw [h]; exact ⟨t1, e⟩
    · rw [h0 t t0 t1 e, zB_0] at h; cases h
  · rintro ⟨y1, y2⟩
    exact ⟨i, ⟨hi.1, y1⟩, by rw [h1 i hi.1 y1 y2, zB_shl1 hi.1 hi.2 (by omega), decide_eq_true_iff, Int.toNat_of_nonneg hi.1]⟩
theorem qLkd_bit (M : Int → Int) {p : Int} (hp : 0 ≤ p ∧ p < 32) {n : Int} (hn : 0 ≤ n ∧ n ≤ 31) {i : Int} (hi : 0 ≤ i ∧ i < 32) : zbit (qLkd M p n) i = 1 ↔ i < n ∧ zbit (M (74 + 5 * i + 3)) p = 1 := by
  have := qLkd_B M hp hn (k := i.toNat) (by omega)
  rw [Int.toNat_of_nonneg hi.1] at this
  rw [zbit_B1 hi.1 hi.2, this]
def qFits (M : Int → Int) (p o : Int) : Int := zand (qInSt M 0) (zand (qLkd M p (M 4)) (zxor (qLkd M o (M 4)) (-1)))
theorem qFits_B {M : Int → Int} (hI : zInv M) {p o : Int} (hp : 0 ≤ p ∧ p < 7) (ho : 0 ≤ o ∧ o < 7) {i : Int} (hi : 0 ≤ i ∧ i < M 4) : zbit (qFits M p o) i = 1 ↔ qParts M i p o := by
  have h4 := hI.m4
  unfold qFits qParts
  rw [zbit_and ⟨hi.1, by omega⟩, zbit_and ⟨hi.1, by omega⟩, zbit_not ⟨hi.1, by omega⟩, qInSt_B hI 0 ⟨hi.1, by omega⟩, qLkd_bit M ⟨hp.1, by omega⟩ ⟨h4.1, by omega⟩ ⟨hi.1, by omega⟩, qLkd_bit M ⟨ho.1, by omega⟩ ⟨h4.1, by omega⟩ ⟨hi.1, by omega⟩]
  exact ⟨fun z => ⟨z.1.2, z.2.1.2, fun y => z.2.2 ⟨hi.2, y⟩⟩, fun z => ⟨⟨hi.2, z.1⟩, ⟨hi.2, z.2.1⟩, fun y => z.2.2 y.2⟩⟩
theorem qCarOf_B {M : Int → Int} (hI : zInv M) (set s : Int) {i : Int} (hi : 0 ≤ i ∧ i < M 4) : zbit (qCarOf M set s (M 4)) i = 1 ↔ zbit set i = 1 ∧ qGo M i s (M 6) = 1 := by
  have h4 := hI.m4
  unfold qCarOf
  rw [zors_ifB (P := fun i => zbit set i = 1 ∧ qGo M i s (M 6) = 1) ⟨h4.1, by omega⟩ (fun t _ _ h => if_pos h) (fun t _ _ h => if_neg h) ⟨hi.1, by omega⟩]
  exact ⟨fun z => z.2, fun z => ⟨hi.2, z⟩⟩
theorem qBackOf_B {M : Int → Int} (hM : zOC M) (set bk : Int) {i : Int} (hi : 0 ≤ i ∧ i < M 4) : zbit (qBackOf M set bk (M 4)) i = 1 ↔ zbit set i = 1 ∧ qWetBy M i (zor (M (74 + 5 * i + 3)) bk) := by
  have h4 := hM.I.m4
  unfold qBackOf
  rw [zors_ifB (P := fun i => zbit set i = 1 ∧ qGoO M i 2 (M 6) (qOuts M) (zor (M (74 + 5 * i + 3)) bk) = 1) ⟨h4.1, by omega⟩ (fun t _ _ h => if_pos h) (fun t _ _ h => if_neg h) ⟨hi.1, by omega⟩, qWetBy_O hM hi]
  exact ⟨fun z => z.2, fun z => ⟨hi.2, z⟩⟩
theorem zpair_0 {a c T : Int} (ha : 0 ≤ a ∧ a < 32) (hc : 0 ≤ c ∧ c < 32) : zand (zor (zshl 1 a) (zshl 1 c)) (zxor T (-1)) = 0 ↔ zbit T a = 1 ∧ zbit T c = 1 := by
  have hb : ∀ i : Int, 0 ≤ i → i < 32 → (zbit (zor (zshl 1 a) (zshl 1 c)) i = 1 ↔ i = a ∨ i = c) := by
    intro i i0 i1
    rw [zbit_set hc ⟨i0, i1⟩, zbit_B1 i0 i1, zB_shl1 ha.1 ha.2 (by omega), decide_eq_true_iff, Int.toNat_of_nonneg i0]
  rw [zand_0]
  constructor
  · intro h
    exact ⟨h a ha.1 ha.2 ((hb a ha.1 ha.2).mpr (Or.inl rfl)), h c hc.1 hc.2 ((hb c hc.1 hc.2).mpr (Or.inr rfl))⟩
  · rintro ⟨h1, h2⟩ i i0 i1 h
    rcases (hb i i0 i1).mp h with e | e
    · rw [e]; exact h1
    · rw [e]; exact h2
theorem qBar_B {M : Int → Int} (hM : zOC M) {p o a c : Int} (hp : 0 ≤ p ∧ p < 7) (ho : 0 ≤ o ∧ o < 7) (ha : 0 ≤ a ∧ a < M 4) (hc : 0 ≤ c ∧ c < M 4) : qBar M p o a c ↔ (zbit (qFits M p o) a = 1 ∧ zbit (qFits M o p) c = 1) ∧ zand (zor (zshl 1 a) (zshl 1 c)) (zxor (qBackOf M (zor (qFits M p o) (qFits M o p)) (zor (zshl 1 p) (zshl 1 o)) (M 4)) (-1)) = 0 ∧ ¬ zand (zor (zshl 1 a) (zshl 1 c)) (zxor (qCarOf M (zor (qFits M p o) (qFits M o p)) 2 (M 4)) (-1)) = 0 := by
  have hI := hM.I
  have h4 := hI.m4
  have a32 : 0 ≤ a ∧ a < 32 := ⟨ha.1, by omega⟩
  have c32 : 0 ≤ c ∧ c < 32 := ⟨hc.1, by omega⟩
  rw [zpair_0 a32 c32, zpair_0 a32 c32, qBackOf_B hM _ _ ha, qBackOf_B hM _ _ hc, qCarOf_B hI _ _ ha, qCarOf_B hI _ _ hc, zbit_or a32, zbit_or c32, qFits_B hI hp ho ha, qFits_B hI ho hp hc]
  unfold qBar
  constructor
  · rintro ⟨⟨q1, q2⟩, q3, q4, q5⟩
    exact ⟨⟨q1, q2⟩, ⟨⟨Or.inl q1, q4⟩, Or.inr q2, q5⟩, fun z => q3 ⟨z.1.2, z.2.2⟩⟩
  · rintro ⟨⟨q1, q2⟩, ⟨⟨_, q4⟩, _, q5⟩, q3⟩
    exact ⟨⟨q1, q2⟩, fun z => q3 ⟨⟨Or.inl q1, z.1⟩, Or.inr q2, z.2⟩, q4, q5⟩
theorem c_X11_bargain {G : zG} {lay : zLay} {σ C0 : zMem} {nx x : Int} (hT : TopL lay x) {p o : Int} {M : Int → Int} (hR : CoR lay x C0 σ (0 + 2) M) (hM : zOC M) (hp : zin p) (ho : zin o) : zMM G 8 KX11_bargain [zP (x + 0), zI p, zI o] lay (tC x σ C0) nx (3, 18) (zGd (0 ≤ p ∧ p < M 3) zEb lay (tC x σ C0) nx (zGd (0 ≤ o ∧ o < M 3) zEb lay (tC x σ C0) nx (zGd (p ≠ o) zEa lay (tC x σ C0) nx (zY' (some (zI (qBarN M p o (M 4).toNat 0))) (fun q C => zFc (0 + 2) σ C0 q C) lay nx x)))) := by
  refine z_met' (L := [zP (x + 0), zI p, zI o, zU, zU, zU, zU, zU, zU, zU, zU, zU, zU]) gX11_bargain.1 rfl rfl (Nat.le_of_ble_eq_true rfl) rfl ?_
  have hA := TpAt
  have hx := hT.1
  have hne : x + 0 ≠ -1 := by omega
  have hD := isCo.now
  have hI := hM.I
  have hm3 := hI.m3
  have hm4 := hI.m4
  have hl : ∀ (V : Int) (Q : zQ) (S C : zMem), CoR lay x C S (0 + 2) M → Q (.inl (some (zI V))) lay (tC x S C) nx → 0 ≤ p ∧ p < M 3 → 0 ≤ o ∧ o < M 3 → ∀ (m : Nat) (a : Int), a + m = M 4 → 0 ≤ a → qBarN M p o m a = V → ∀ (y1 y2 y3 y4 y5 : zAV), y3.1 ≠ 1 → y4.1 ≠ 1 → y5.1 ≠ 1 → zW G KX11_bargain 8 Q 102 [zP (x + 0), zI p, zI o, y1, y2, zI (qFits M p o), zI (qFits M o p), zI (qCarOf M (zor (qFits M p o) (qFits M o p)) 2 (M 4)), zI (qBackOf M (zor (qFits M p o) (qFits M o p)) (zor (zshl 1 p) (zshl 1 o)) (M 4)), zI a, y3, y4, y5] [] lay (tC x S C) nx (0, 0) := by
    intro V Q S C hRS hq hp1 ho1 m
    induction m with
    | zero =>
      intro a ha a0 hV y1 y2 y3 y4 y5 hy3 hy4 hy5
      refine z_il9 eX11_bargain_102 ?_
      refine z_al0 eX11_bargain_104 hne ?_
      first | refine z_ta0 lX11_20 eX11_bargain_105 rfl hT hA (by decide) rfl rfl ?_ | refine z_ta lX11_20 eX11_bargain_105 rfl hT hA ⟨by decide, by decide⟩ rfl rfl ?_
      first | refine z_ta0 lX11_154 eX11_bargain_108 rfl hT hD (by decide) rfl rfl ?_ | refine z_ta lX11_154 eX11_bargain_108 rfl hT hD ⟨by decide, by decide⟩ rfl rfl ?_
      first | refine z_tg0 (j := 0) lX11_294 eX11_bargain_111 rfl hT hD.mo (by decide) rfl rfl rfl ?_ | refine z_tg (j := 0) lX11_294 eX11_bargain_111 rfl hT hD.mo ⟨by decide, by decide⟩ rfl rfl rfl ?_
      rw [hRS.1.mo.1]
      refine z_icmp_ge (tgt := 221) eX11_bargain_114 rfl ⟨⟨by omega, by omega⟩, ⟨by omega, by omega⟩⟩ (fun h114 => ?_) (fun h114 => (by exfalso; omega))
      refine z_iconst eX11_bargain_221 ?_
      refine z_ireturn eX11_bargain_222 rfl ?_
      rw [show (-1 : Int) = V from hV]
      exact hq
    | succ m ih =>
      intro a ha a0 hV y1 y2 y3 y4 y5 hy3 hy4 hy5
      rw [show qBarN M p o (m + 1) a = if qFrom (qBar M p o a) 0 (M 4) = -1 then qBarN M p o m (a + 1) else 8 * a + qFrom (qBar M p o a) 0 (M 4) from rfl] at hV
      have w120 : ∀ (m2 : Nat) (c : Int), c + m2 = M 4 → 0 ≤ c → qFrom (qBar M p o a) 0 (M 4) = qFrom (qBar M p o a) c (M 4) → ∀ (y4 y5 : zAV), y4.1 ≠ 1 → y5.1 ≠ 1 → zW G KX11_bargain 8 Q 120 [zP (x + 0), zI p, zI o, y1, y2, zI (qFits M p o), zI (qFits M o p), zI (qCarOf M (zor (qFits M p o) (qFits M o p)) 2 (M 4)), zI (qBackOf M (zor (qFits M p o) (qFits M o p)) (zor (zshl 1 p) (zshl 1 o)) (M 4)), zI a, zI c, y4, y5] [] lay (tC x S C) nx (0, 0) := by
        intro m2
        induction m2 with
        | zero =>
          intro c hc c0 hF y4 y5 hy4 hy5
          rw [qFrom_ge (k := c) (by omega)] at hF
          rw [if_pos hF] at hV
          refine z_il10 eX11_bargain_120 ?_
          refine z_al0 eX11_bargain_122 hne ?_
          first | refine z_ta0 lX11_20 eX11_bargain_123 rfl hT hA (by decide) rfl rfl ?_ | refine z_ta lX11_20 eX11_bargain_123 rfl hT hA ⟨by decide, by decide⟩ rfl rfl ?_
          first | refine z_ta0 lX11_154 eX11_bargain_126 rfl hT hD (by decide) rfl rfl ?_ | refine z_ta lX11_154 eX11_bargain_126 rfl hT hD ⟨by decide, by decide⟩ rfl rfl ?_
          first | refine z_tg0 (j := 0) lX11_294 eX11_bargain_129 rfl hT hD.mo (by decide) rfl rfl rfl ?_ | refine z_tg (j := 0) lX11_294 eX11_bargain_129 rfl hT hD.mo ⟨by decide, by decide⟩ rfl rfl rfl ?_
          rw [hRS.1.mo.1]
          refine z_icmp_ge (tgt := 215) eX11_bargain_132 rfl ⟨⟨by omega, by omega⟩, ⟨by omega, by omega⟩⟩ (fun h132 => ?_) (fun h132 => (by exfalso; omega))
          refine z_ii9 eX11_bargain_215 (Nat.ne_of_beq_eq_false rfl) ?_
          refine z_goto eX11_bargain_218 (tgt := 102) rfl ?_
          exact ih (a + 1) (by omega) (by omega) hV _ _ _ _ _ (Nat.ne_of_beq_eq_false rfl) hy4 hy5
        | succ m2 ih2 =>
          intro c hc c0 hF y4 y5 hy4 hy5
          have hb := qBar_B hM (p := p) (o := o) (a := a) (c := c) ⟨hp1.1, by omega⟩ ⟨ho1.1, by omega⟩ ⟨a0, by omega⟩ ⟨c0, by omega⟩
          have hy : qBar M p o a c → 8 * a + c = V := by
            intro z
            rw [qFrom_t (by omega) z] at hF
            rw [if_neg (by omega), hF] at hV
            exact hV
          have hn : ¬ qBar M p o a c → qFrom (qBar M p o a) 0 (M 4) = qFrom (qBar M p o a) (c + 1) (M 4) := by
            intro z
            rw [hF, qFrom_f (by omega) z]
          have z1 := zbit_01 (qFits M p o) a
          have z2 := zbit_01 (qFits M o p) c
          refine z_il10 eX11_bargain_120 ?_
          refine z_al0 eX11_bargain_122 hne ?_
          first | refine z_ta0 lX11_20 eX11_bargain_123 rfl hT hA (by decide) rfl rfl ?_ | refine z_ta lX11_20 eX11_bargain_123 rfl hT hA ⟨by decide, by decide⟩ rfl rfl ?_
          first | refine z_ta0 lX11_154 eX11_bargain_126 rfl hT hD (by decide) rfl rfl ?_ | refine z_ta lX11_154 eX11_bargain_126 rfl hT hD ⟨by decide, by decide⟩ rfl rfl ?_
          first | refine z_tg0 (j := 0) lX11_294 eX11_bargain_129 rfl hT hD.mo (by decide) rfl rfl rfl ?_ | refine z_tg (j := 0) lX11_294 eX11_bargain_129 rfl hT hD.mo ⟨by decide, by decide⟩ rfl rfl rfl ?_
          rw [hRS.1.mo.1]
          refine z_icmp_ge (tgt := 215) eX11_bargain_132 rfl ⟨⟨by omega, by omega⟩, ⟨by omega, by omega⟩⟩ (fun h132 => (by exfalso; omega)) (fun h132 => ?_)
          refine z_iconst eX11_bargain_135 ?_
          refine z_il9 eX11_bargain_136 ?_
          refine z_ishl eX11_bargain_138 ?_
          refine z_iconst eX11_bargain_139 ?_
          refine z_il10 eX11_bargain_140 ?_
          refine z_ishl eX11_bargain_142 ?_
          refine z_ior eX11_bargain_143 ?_
          refine z_is11 eX11_bargain_144 (Nat.ne_of_beq_eq_false rfl) ?_
          refine z_il5 eX11_bargain_146 ?_
          refine z_il9 eX11_bargain_148 ?_
          refine z_S2 eX11_bargain_150 vX11_143 rfl rfl (Nat.le_of_ble_eq_true rfl) (Nat.le_of_ble_eq_true rfl) (c_X11_bitOf hT ⟨by omega, by omega⟩) ?_
          refine z_iconst eX11_bargain_153 ?_
          refine z_icmp_ne (tgt := 172) eX11_bargain_154 rfl ⟨⟨by omega, by omega⟩, ⟨by omega, by omega⟩⟩ (fun h154 => ?_) (fun h154 => ?_)
          · refine z_iconst eX11_bargain_172 ?_
            refine z_is12 eX11_bargain_173 (Nat.ne_of_beq_eq_false rfl) ?_
            refine z_il12 eX11_bargain_175 ?_
            refine z_if_eq (tgt := 209) eX11_bargain_177 rfl ⟨by omega, by omega⟩ (fun h177 => ?_) (fun h177 => (by exfalso; omega))
            refine z_ii10 eX11_bargain_209 (Nat.ne_of_beq_eq_false rfl) ?_
            refine z_goto eX11_bargain_212 (tgt := 120) rfl ?_
            first | (have e3 := h197; exact ih2 (c + 1) (by omega) (by omega) (hn (fun z => (hb.mp z).2.2 e3)) _ _ (Nat.ne_of_beq_eq_false rfl) (Nat.ne_of_beq_eq_false rfl)) | (have e3 := h187; exact ih2 (c + 1) (by omega) (by omega) (hn (fun z => e3 (hb.mp z).2.1)) _ _ (Nat.ne_of_beq_eq_false rfl) (Nat.ne_of_beq_eq_false rfl)) | (exact ih2 (c + 1) (by omega) (by omega) (hn (fun z => by have := (hb.mp z).1; omega)) _ _ (Nat.ne_of_beq_eq_false rfl) (Nat.ne_of_beq_eq_false rfl)) | fail
          · refine z_il6 eX11_bargain_157 ?_
            refine z_il10 eX11_bargain_159 ?_
            refine z_S2 eX11_bargain_161 vX11_143 rfl rfl (Nat.le_of_ble_eq_true rfl) (Nat.le_of_ble_eq_true rfl) (c_X11_bitOf hT ⟨by omega, by omega⟩) ?_
            refine z_iconst eX11_bargain_164 ?_
            refine z_icmp_ne (tgt := 172) eX11_bargain_165 rfl ⟨⟨by omega, by omega⟩, ⟨by omega, by omega⟩⟩ (fun h165 => ?_) (fun h165 => ?_)
            · refine z_iconst eX11_bargain_172 ?_
              refine z_is12 eX11_bargain_173 (Nat.ne_of_beq_eq_false rfl) ?_
              refine z_il12 eX11_bargain_175 ?_
              refine z_if_eq (tgt := 209) eX11_bargain_177 rfl ⟨by omega, by omega⟩ (fun h177 => ?_) (fun h177 => (by exfalso; omega))
              refine z_ii10 eX11_bargain_209 (Nat.ne_of_beq_eq_false rfl) ?_
              refine z_goto eX11_bargain_212 (tgt := 120) rfl ?_
              first | (have e3 := h197; exact ih2 (c + 1) (by omega) (by omega) (hn (fun z => (hb.mp z).2.2 e3)) _ _ (Nat.ne_of_beq_eq_false rfl) (Nat.ne_of_beq_eq_false rfl)) | (have e3 := h187; exact ih2 (c + 1) (by omega) (by omega) (hn (fun z => e3 (hb.mp z).2.1)) _ _ (Nat.ne_of_beq_eq_false rfl) (Nat.ne_of_beq_eq_false rfl)) | (exact ih2 (c + 1) (by omega) (by omega) (hn (fun z => by have := (hb.mp z).1; omega)) _ _ (Nat.ne_of_beq_eq_false rfl) (Nat.ne_of_beq_eq_false rfl)) | fail
            · refine z_iconst eX11_bargain_168 ?_
              refine z_goto eX11_bargain_169 (tgt := 173) rfl ?_
              refine z_is12 eX11_bargain_173 (Nat.ne_of_beq_eq_false rfl) ?_
              refine z_il12 eX11_bargain_175 ?_
              refine z_if_eq (tgt := 209) eX11_bargain_177 rfl ⟨by omega, by omega⟩ (fun h177 => (by exfalso; omega)) (fun h177 => ?_)
              refine z_il11 eX11_bargain_180 ?_
              refine z_il8 eX11_bargain_182 ?_
              refine z_iconst eX11_bargain_184 ?_
              refine z_ixor eX11_bargain_185 ?_
              refine z_iand eX11_bargain_186 ?_
              refine z_if_ne (tgt := 209) eX11_bargain_187 rfl (zand_in _ _) (fun h187 => ?_) (fun h187 => ?_)
              · refine z_ii10 eX11_bargain_209 (Nat.ne_of_beq_eq_false rfl) ?_
                refine z_goto eX11_bargain_212 (tgt := 120) rfl ?_
                first | (have e3 := h197; exact ih2 (c + 1) (by omega) (by omega) (hn (fun z => (hb.mp z).2.2 e3)) _ _ (Nat.ne_of_beq_eq_false rfl) (Nat.ne_of_beq_eq_false rfl)) | (have e3 := h187; exact ih2 (c + 1) (by omega) (by omega) (hn (fun z => e3 (hb.mp z).2.1)) _ _ (Nat.ne_of_beq_eq_false rfl) (Nat.ne_of_beq_eq_false rfl)) | (exact ih2 (c + 1) (by omega) (by omega) (hn (fun z => by have := (hb.mp z).1; omega)) _ _ (Nat.ne_of_beq_eq_false rfl) (Nat.ne_of_beq_eq_false rfl)) | fail
              · refine z_il11 eX11_bargain_190 ?_
                refine z_il7 eX11_bargain_192 ?_
                refine z_iconst eX11_bargain_194 ?_
                refine z_ixor eX11_bargain_195 ?_
                refine z_iand eX11_bargain_196 ?_
                refine z_if_eq (tgt := 209) eX11_bargain_197 rfl (zand_in _ _) (fun h197 => ?_) (fun h197 => ?_)
                · refine z_ii10 eX11_bargain_209 (Nat.ne_of_beq_eq_false rfl) ?_
                  refine z_goto eX11_bargain_212 (tgt := 120) rfl ?_
                  first | (have e3 := h197; exact ih2 (c + 1) (by omega) (by omega) (hn (fun z => (hb.mp z).2.2 e3)) _ _ (Nat.ne_of_beq_eq_false rfl) (Nat.ne_of_beq_eq_false rfl)) | (have e3 := h187; exact ih2 (c + 1) (by omega) (by omega) (hn (fun z => e3 (hb.mp z).2.1)) _ _ (Nat.ne_of_beq_eq_false rfl) (Nat.ne_of_beq_eq_false rfl)) | (exact ih2 (c + 1) (by omega) (by omega) (hn (fun z => by have := (hb.mp z).1; omega)) _ _ (Nat.ne_of_beq_eq_false rfl) (Nat.ne_of_beq_eq_false rfl)) | fail
                · refine z_bipush eX11_bargain_200 (by decide) ?_
                  refine z_il9 eX11_bargain_202 ?_
                  refine z_imul eX11_bargain_204 ?_
                  refine z_il10 eX11_bargain_205 ?_
                  refine z_iadd eX11_bargain_207 ?_
                  refine z_ireturn eX11_bargain_208 rfl ?_
                  rw [hy (hb.mpr ⟨⟨by omega, by omega⟩, h187, h197⟩)]
                  exact hq
      refine z_il9 eX11_bargain_102 ?_
      refine z_al0 eX11_bargain_104 hne ?_
      first | refine z_ta0 lX11_20 eX11_bargain_105 rfl hT hA (by decide) rfl rfl ?_ | refine z_ta lX11_20 eX11_bargain_105 rfl hT hA ⟨by decide, by decide⟩ rfl rfl ?_
      first | refine z_ta0 lX11_154 eX11_bargain_108 rfl hT hD (by decide) rfl rfl ?_ | refine z_ta lX11_154 eX11_bargain_108 rfl hT hD ⟨by decide, by decide⟩ rfl rfl ?_
      first | refine z_tg0 (j := 0) lX11_294 eX11_bargain_111 rfl hT hD.mo (by decide) rfl rfl rfl ?_ | refine z_tg (j := 0) lX11_294 eX11_bargain_111 rfl hT hD.mo ⟨by decide, by decide⟩ rfl rfl rfl ?_
      rw [hRS.1.mo.1]
      refine z_icmp_ge (tgt := 221) eX11_bargain_114 rfl ⟨⟨by omega, by omega⟩, ⟨by omega, by omega⟩⟩ (fun h114 => (by exfalso; omega)) (fun h114 => ?_)
      refine z_iconst eX11_bargain_117 ?_
      refine z_is10 eX11_bargain_118 (Nat.ne_of_beq_eq_false rfl) ?_
      exact w120 (M 4).toNat 0 (by omega) (by decide) rfl _ _ hy4 hy5
  have e4 : ((M 4).toNat : Int) = M 4 := Int.toNat_of_nonneg hm4.1
  refine z_al0 eX11_bargain_0 hne ?_
  refine z_il1 eX11_bargain_1 ?_
  refine z_ndV1 (n := 2) eX11_bargain_2 vX11_131 rfl rfl (Nat.le_of_ble_eq_true rfl) (Nat.le_of_ble_eq_true rfl) (hA.L0 hT (by decide)) (c_X11_needMember hT hR.1 hM.I (by assumption)) (fun hP2 => ?_) (fun hN2 => (by first | exact Or.inr ⟨(by first | assumption | exact ⟨by omega, by omega⟩ | omega), rfl, rfl, rfl, rfl⟩ | exact Or.inl ⟨(by first | assumption | exact ⟨by omega, by omega⟩ | omega), Or.inr ⟨(by first | assumption | exact ⟨by omega, by omega⟩ | omega), rfl, rfl, rfl, rfl⟩⟩ | exact Or.inl ⟨(by first | assumption | exact ⟨by omega, by omega⟩ | omega), Or.inl ⟨(by first | assumption | exact ⟨by omega, by omega⟩ | omega), Or.inr ⟨(by first | assumption | exact ⟨by omega, by omega⟩ | omega), rfl, rfl, rfl, rfl⟩⟩⟩))
  refine z_al0 eX11_bargain_5 hne ?_
  refine z_il2 eX11_bargain_6 ?_
  refine z_ndV1 (n := 1) eX11_bargain_7 vX11_131 rfl rfl (Nat.le_of_ble_eq_true rfl) (Nat.le_of_ble_eq_true rfl) (hA.L0 hT (by decide)) (c_X11_needMember hT hR.1 hM.I (by assumption)) (fun hP7 => ?_) (fun hN7 => (by first | exact Or.inr ⟨(by first | assumption | exact ⟨by omega, by omega⟩ | omega), rfl, rfl, rfl, rfl⟩ | exact Or.inl ⟨(by first | assumption | exact ⟨by omega, by omega⟩ | omega), Or.inr ⟨(by first | assumption | exact ⟨by omega, by omega⟩ | omega), rfl, rfl, rfl, rfl⟩⟩ | exact Or.inl ⟨(by first | assumption | exact ⟨by omega, by omega⟩ | omega), Or.inl ⟨(by first | assumption | exact ⟨by omega, by omega⟩ | omega), Or.inr ⟨(by first | assumption | exact ⟨by omega, by omega⟩ | omega), rfl, rfl, rfl, rfl⟩⟩⟩))
  refine z_il1 eX11_bargain_10 ?_
  refine z_il2 eX11_bargain_11 ?_
  refine z_ndS2 (n := 0) eX11_bargain_12 vX11_381 rfl rfl (Nat.le_of_ble_eq_true rfl) (Nat.le_of_ble_eq_true rfl) (c_X11_needTwo hT (by assumption) (by assumption)) (fun hP12 => ?_) (fun hN12 => (by first | exact Or.inr ⟨(by first | assumption | exact ⟨by omega, by omega⟩ | omega), rfl, rfl, rfl, rfl⟩ | exact Or.inl ⟨(by first | assumption | exact ⟨by omega, by omega⟩ | omega), Or.inr ⟨(by first | assumption | exact ⟨by omega, by omega⟩ | omega), rfl, rfl, rfl, rfl⟩⟩ | exact Or.inl ⟨(by first | assumption | exact ⟨by omega, by omega⟩ | omega), Or.inl ⟨(by first | assumption | exact ⟨by omega, by omega⟩ | omega), Or.inr ⟨(by first | assumption | exact ⟨by omega, by omega⟩ | omega), rfl, rfl, rfl, rfl⟩⟩⟩))
  refine z_al0 eX11_bargain_15 hne ?_
  first | refine z_ta0 lX11_20 eX11_bargain_16 rfl hT hA (by decide) rfl rfl ?_ | refine z_ta lX11_20 eX11_bargain_16 rfl hT hA ⟨by decide, by decide⟩ rfl rfl ?_
  first | refine z_ta0 lX11_154 eX11_bargain_19 rfl hT hD (by decide) rfl rfl ?_ | refine z_ta lX11_154 eX11_bargain_19 rfl hT hD ⟨by decide, by decide⟩ rfl rfl ?_
  refine z_iconst eX11_bargain_22 ?_
  refine z_V1 eX11_bargain_23 vX11_270 rfl rfl (Nat.le_of_ble_eq_true rfl) (Nat.le_of_ble_eq_true rfl) ((hD.mo).L0 hT (by decide)) (c_X6_inState hT hD.mo hR.1.mo hI (by decide)) ?_
  refine z_is3 eX11_bargain_26 (Nat.ne_of_beq_eq_false rfl) ?_
  refine z_iconst eX11_bargain_27 ?_
  refine z_il1 eX11_bargain_28 ?_
  refine z_ishl eX11_bargain_29 ?_
  refine z_iconst eX11_bargain_30 ?_
  refine z_il2 eX11_bargain_31 ?_
  refine z_ishl eX11_bargain_32 ?_
  refine z_ior eX11_bargain_33 ?_
  refine z_is4 eX11_bargain_34 (Nat.ne_of_beq_eq_false rfl) ?_
  refine z_il3 eX11_bargain_36 ?_
  refine z_al0 eX11_bargain_37 hne ?_
  first | refine z_ta0 lX11_20 eX11_bargain_38 rfl hT hA (by decide) rfl rfl ?_ | refine z_ta lX11_20 eX11_bargain_38 rfl hT hA ⟨by decide, by decide⟩ rfl rfl ?_
  first | refine z_ta0 lX11_154 eX11_bargain_41 rfl hT hD (by decide) rfl rfl ?_ | refine z_ta lX11_154 eX11_bargain_41 rfl hT hD ⟨by decide, by decide⟩ rfl rfl ?_
  refine z_il1 eX11_bargain_44 ?_
  refine z_il2 eX11_bargain_45 ?_
  refine z_V2 eX11_bargain_46 vX11_384 rfl rfl (Nat.le_of_ble_eq_true rfl) (Nat.le_of_ble_eq_true rfl) ((hD.mo).L0 hT (by decide)) (c_X6_likedByOneOnly hT hD.mo hR.1.mo hI ⟨by omega, by omega⟩ ⟨by omega, by omega⟩) ?_
  refine z_iand eX11_bargain_49 ?_
  refine z_is5 eX11_bargain_50 (Nat.ne_of_beq_eq_false rfl) ?_
  refine z_il3 eX11_bargain_52 ?_
  refine z_al0 eX11_bargain_53 hne ?_
  first | refine z_ta0 lX11_20 eX11_bargain_54 rfl hT hA (by decide) rfl rfl ?_ | refine z_ta lX11_20 eX11_bargain_54 rfl hT hA ⟨by decide, by decide⟩ rfl rfl ?_
  first | refine z_ta0 lX11_154 eX11_bargain_57 rfl hT hD (by decide) rfl rfl ?_ | refine z_ta lX11_154 eX11_bargain_57 rfl hT hD ⟨by decide, by decide⟩ rfl rfl ?_
  refine z_il2 eX11_bargain_60 ?_
  refine z_il1 eX11_bargain_61 ?_
  refine z_V2 eX11_bargain_62 vX11_384 rfl rfl (Nat.le_of_ble_eq_true rfl) (Nat.le_of_ble_eq_true rfl) ((hD.mo).L0 hT (by decide)) (c_X6_likedByOneOnly hT hD.mo hR.1.mo hI ⟨by omega, by omega⟩ ⟨by omega, by omega⟩) ?_
  refine z_iand eX11_bargain_65 ?_
  refine z_is6 eX11_bargain_66 (Nat.ne_of_beq_eq_false rfl) ?_
  refine z_al0 eX11_bargain_68 hne ?_
  first | refine z_ta0 lX11_20 eX11_bargain_69 rfl hT hA (by decide) rfl rfl ?_ | refine z_ta lX11_20 eX11_bargain_69 rfl hT hA ⟨by decide, by decide⟩ rfl rfl ?_
  refine z_il5 eX11_bargain_72 ?_
  refine z_il6 eX11_bargain_74 ?_
  refine z_ior eX11_bargain_76 ?_
  refine z_iconst eX11_bargain_77 ?_
  refine z_V2y eX11_bargain_78 vX11_273 rfl rfl (Nat.le_of_ble_eq_true rfl) (Nat.le_of_ble_eq_true rfl) ((hD).L0 hT (by decide)) (c_X1_carriedOf hT hD hR hM ⟨by decide, by decide⟩) (fun s78 C78 hs78 => ?_)
  have hR1 := hR.fc hs78
  refine z_is7 eX11_bargain_81 (Nat.ne_of_beq_eq_false rfl) ?_
  refine z_al0 eX11_bargain_83 hne ?_
  first | refine z_ta0 lX11_20 eX11_bargain_84 rfl hT hA (by decide) rfl rfl ?_ | refine z_ta lX11_20 eX11_bargain_84 rfl hT hA ⟨by decide, by decide⟩ rfl rfl ?_
  refine z_il5 eX11_bargain_87 ?_
  refine z_il6 eX11_bargain_89 ?_
  refine z_ior eX11_bargain_91 ?_
  refine z_il4 eX11_bargain_92 ?_
  refine z_V2y eX11_bargain_94 vX11_387 rfl rfl (Nat.le_of_ble_eq_true rfl) (Nat.le_of_ble_eq_true rfl) ((hD).L0 hT (by decide)) (c_X1_carriedBacked hT hD hR1 hM) (fun s94 C94 hs94 => ?_)
  refine z_is8 eX11_bargain_97 (Nat.ne_of_beq_eq_false rfl) ?_
  refine z_iconst eX11_bargain_99 ?_
  refine z_is9 eX11_bargain_100 (Nat.ne_of_beq_eq_false rfl) ?_
  exact hl _ _ _ _ (hR1.fc hs94) (Or.inl ⟨hP2, Or.inl ⟨hP7, Or.inl ⟨hP12, zYe (zFc.trans hs78 hs94) rfl⟩⟩⟩) hP2 hP7 (M 4).toNat 0 (by omega) (by decide) rfl _ _ _ _ _ (Nat.ne_of_beq_eq_false rfl) (Nat.ne_of_beq_eq_false rfl) (Nat.ne_of_beq_eq_false rfl)
