/-! The plan of a day. -/
theorem CoN.far {σ s : zMem} {b : Int} {M : Int → Int} (h : CoN σ b M) (h0 : ∀ i, 0 ≤ i → i < 18 → s (b + i) = σ (b + i)) : CoN s b M := h.out (fun i i0 i1 _ _ => h0 i i0 (by omega))
theorem CoN.weq {σ s : zMem} {b : Int} {M : Int → Int} (h : CoN σ b M) (hI : zInv M) (ho : zOut (b + 4) 4 σ s) (hw : WeR s (b + 4) M) : CoN s b M := h.of hI.m3.2 (ho _ (by omega)) (ho _ (by omega)) (ho _ (by omega)) (ho _ (by omega)) (fun _ _ => rfl) hw (h.mo.out (fun i i0 i1 => ho _ (by omega))) (h.lo.out (ho _ (by omega)) (ho _ (by omega)))
/-- the plan's cells, the council's and its law's stack have changed -/
def zPd (b : Int) (σ C0 S C : zMem) : Prop := (∀ i, ¬ (310 ≤ i ∧ i < 313) → ¬ (b ≤ i ∧ i < b + 18) → S i = σ i) ∧ S b = σ b ∧ zStk C0 (σ b 10) C
theorem zPd.fc {b : Int} {σ C0 S C T D : zMem} (h : zPd b σ C0 S C) (f : zFc b S C T D) : zPd b σ C0 T D := ⟨fun i i1 i2 => by rw [f.1 i (by omega)]; exact h.1 i i1 i2, f.1.cell.trans h.2.1, h.2.2.trans (by have := f.2; rwa [h.2.1] at this)⟩
theorem zPd.we {b : Int} {σ C0 S C T : zMem} (h : zPd b σ C0 S C) (f : zOut (b + 4) 4 S T) : zPd b σ C0 T C := ⟨fun i i1 i2 => by rw [f i (by omega)]; exact h.1 i i1 i2, (f b (by omega)).trans h.2.1, h.2.2⟩
theorem zPd.pl {b : Int} {σ C0 S C T : zMem} (h : zPd b σ C0 S C) (hd : b + 18 ≤ 303) (f : zOut 310 3 S T) : zPd b σ C0 T C := ⟨fun i i1 i2 => by rw [f i i1]; exact h.1 i i1 i2, (f b (by omega)).trans h.2.1, h.2.2⟩
theorem qCh_s (M : Int → Int) {n : Int} (hn : 0 ≤ n) : qCh M (n + 1) = qGoC M (qCh M n) := by unfold qCh; rw [zfold_s _ _ hn]
theorem qCarH_q {M c : Int → Int} {i k : Int} (h6 : 0 ≤ M 6) (hk : 0 ≤ k ∧ M 6 + k < 12) (hc : ∀ t, 0 ≤ t → t < 5 → c t = qCh M (k + 1) t) : qCarH M c i (M 6 + k) 5 = qCar M i (k + 1) := by
  unfold qCarH qCar
  rw [show (M 6 + (k + 1) - 1) % 12 = M 6 + k by omega]
  exact zsum_congr (fun t t0 t1 => by rw [hc t t0 t1])
theorem CoR.fr {lay : zLay} {x b : Int} {C0 σ s : zMem} {M : Int → Int} (h : CoR lay x C0 σ b M) (hN : CoN s b M) (c0 : s b = σ b) : CoR lay x C0 s b M := ⟨hN, by rw [c0]; exact h.2⟩
theorem c_X7_planDay {G : zG} {lay : zLay} {σ C0 : zMem} {nx x b : Int} (hT : TopL lay x) {M : Int → Int} (hB : CoAt b) (hd : b + 18 ≤ 303) (hR : CoR lay x C0 σ b M) (hM : zOC M) : zMM G 7 KX7_planDay [zP (x + 310), zP (x + b)] lay (tC x σ C0) nx (0, 0) (zY' none (fun q C => zPd b σ C0 q C ∧ CoR lay x C q b M ∧ PlR q M ∧ PlM q M 0) lay nx x) := by
  refine z_met' (L := [zP (x + 310), zP (x + b), zU, zU, zU]) gX7_planDay.1 rfl rfl (Nat.le_of_ble_eq_true rfl) rfl ?_
  have hA := PlAt
  have hb0 := hB.b0 (by decide)
  have hx := hT.1
  have hne : x + 310 ≠ -1 := by omega
  have hI := hM.I
  have hO := hM.ol.1
  have hm4 := hI.m4
  have h6 := hI.s 6 rfl (by omega)
  obtain ⟨Q, hQ⟩ : ∃ Q, zY' none (fun q C => zPd b σ C0 q C ∧ CoR lay x C q b M ∧ PlR q M ∧ PlM q M 0) lay nx x = Q := ⟨_, rfl⟩
  have w145 : ∀ k : Int, -1 ≤ k → k < 12 - M 6 → ∀ (S C : zMem) (y3 y4 : zAV), zPd b σ C0 S C → CoR lay x C S b M → PlR S M → PlM S M (k + 1) → zW G KX7_planDay 7 Q 145 [zP (x + 310), zP (x + b), zI k, y3, y4] [] lay (tC x S C) nx (0, 0) := by
    refine z_down ?_ (12 - M 6) ?_
    · intro S C y3 y4 hS hR hP hm
      subst hQ
      refine z_il2 eX7_planDay_145 ?_
      refine z_if_lt (tgt := 207) eX7_planDay_146 rfl ⟨by omega, by omega⟩ (fun h146 => ?_) (fun h146 => (by exfalso; omega))
      refine z_return eX7_planDay_207 rfl ?_
      exact zYv ⟨hS, hR, hP, hm⟩
    · intro k k0 k1 ih S C y3 y4 hS hR hP hm
      have hin : ∀ u : Int, 0 ≤ u → u ≤ 256 → ∀ (S2 : zMem), zPd b σ C0 S2 C → CoR lay x C S2 b M → PlR S2 M → PlM S2 M (k + 1) → (∀ v, 0 ≤ v → v < u → qVal M k v → S2 311 (k * 256 + v) = qTab M (M 6 + k) v) → zW G KX7_planDay 7 Q 151 [zP (x + 310), zP (x + b), zI k, zI u, y4] [] lay (tC x S2 C) nx (0, 0) := by
        refine z_up 256 ?_ ?_
        · intro S2 hS hR hP hm hv
          refine z_il3 eX7_planDay_151 ?_
          refine z_sipush eX7_planDay_152 (by decide) ?_
          refine z_icmp_ge (tgt := 201) eX7_planDay_155 rfl ⟨⟨by omega, by omega⟩, ⟨by omega, by omega⟩⟩ (fun h155 => ?_) (fun h155 => (by exfalso; omega))
          refine z_ii2 eX7_planDay_201 (Nat.ne_of_beq_eq_false rfl) ?_
          refine z_goto eX7_planDay_204 (tgt := 145) rfl ?_
          exact ih _ _ _ _ hS hR hP (fun a c d e f => by
            by_cases q : a = k
            · rw [q] at f ⊢; exact hv c f.1.1 f.1.2 f
            · exact hm a c (by omega) e f)
        · intro u u0 u1 iu S2 hS hR hP hm hv
          have hza := zand_in u (zxor (qInSt M 0) (-1))
          have hqb := qbits_bd u
          have hno : ¬ qVal M k u → ∀ v, 0 ≤ v → v < u + 1 → qVal M k v → S2 311 (k * 256 + v) = qTab M (M 6 + k) v := by
            intro z v v0 v1 hq
            by_cases e : v = u
            · rw [e] at hq; exact absurd hq z
            · exact hv v v0 (by omega) hq
          have hup : zOut 310 3 S2 (zset S2 (310 + 1) (k * 256 + u) (qTab M (M 6 + k) u)) := (zOut.refl _ _ _).set ⟨by omega, by omega⟩
          have hm' : PlM (zset S2 (310 + 1) (k * 256 + u) (qTab M (M 6 + k) u)) M (k + 1) := by
            intro a c d e f
            have := f.1
            rw [show (311 : Int) = 310 + 1 by decide, zset_f (by omega)]; exact hm a c d e f
          have hv' : ∀ v, 0 ≤ v → v < u + 1 → qVal M k v → zset S2 (310 + 1) (k * 256 + u) (qTab M (M 6 + k) u) 311 (k * 256 + v) = qTab M (M 6 + k) v := by
            intro v v0 v1 hq
            rw [show (311 : Int) = 310 + 1 by decide]
            by_cases e : v = u
            · rw [e]; exact zset_eq
            · rw [zset_f (by omega)]; exact hv v v0 (by omega) hq
          refine z_il3 eX7_planDay_151 ?_
          refine z_sipush eX7_planDay_152 (by decide) ?_
          refine z_icmp_ge (tgt := 201) eX7_planDay_155 rfl ⟨⟨by omega, by omega⟩, ⟨by omega, by omega⟩⟩ (fun h155 => (by exfalso; omega)) (fun h155 => ?_)
          refine z_il3 eX7_planDay_158 ?_
          refine z_al0 eX7_planDay_159 hne ?_
          first | refine z_tg0 (j := 2) lX7_30 eX7_planDay_160 rfl hT hA (by decide) rfl rfl rfl ?_ | refine z_tg (j := 2) lX7_30 eX7_planDay_160 rfl hT hA ⟨by decide, by decide⟩ rfl rfl rfl ?_
          rw [hP.wa]
          refine z_iconst eX7_planDay_163 ?_
          refine z_ixor eX7_planDay_164 ?_
          refine z_iand eX7_planDay_165 ?_
          refine z_if_ne (tgt := 195) eX7_planDay_166 rfl hza (fun h166 => ?_) (fun h166 => ?_)
          · refine z_ii3 eX7_planDay_195 (Nat.ne_of_beq_eq_false rfl) ?_
            refine z_goto eX7_planDay_198 (tgt := 151) rfl ?_
            first | exact iu _ hS hR hP hm (hno (fun z => h166 z.2.1)) | exact iu _ hS hR hP hm (hno (fun z => by have := z.2.2; omega)) | (exact iu _ (hS.pl hd hup) (hR.fr (hR.1.far (fun i i0 i1 => hup _ (by omega))) (hup b (by omega))) ⟨by rw [zset_o (by decide)]; exact hP.wa, by rw [zset_o (by decide)]; exact hP.hl, fun a c d e f g => by rw [zset_o (by decide)]; exact hP.ga a c d e f g⟩ hm' hv') | fail
          · refine z_il3 eX7_planDay_169 ?_
            refine z_S1 eX7_planDay_170 vX7_71 rfl rfl (Nat.le_of_ble_eq_true rfl) (Nat.le_of_ble_eq_true rfl) (c_J6_bitCount_0f7a4 ⟨u0, u1⟩) ?_
            refine z_il2 eX7_planDay_173 ?_
            refine z_icmp_gt (tgt := 195) eX7_planDay_174 rfl ⟨⟨by omega, by omega⟩, ⟨by omega, by omega⟩⟩ (fun h174 => ?_) (fun h174 => ?_)
            · refine z_ii3 eX7_planDay_195 (Nat.ne_of_beq_eq_false rfl) ?_
              refine z_goto eX7_planDay_198 (tgt := 151) rfl ?_
              first | exact iu _ hS hR hP hm (hno (fun z => h166 z.2.1)) | exact iu _ hS hR hP hm (hno (fun z => by have := z.2.2; omega)) | (exact iu _ (hS.pl hd hup) (hR.fr (hR.1.far (fun i i0 i1 => hup _ (by omega))) (hup b (by omega))) ⟨by rw [zset_o (by decide)]; exact hP.wa, by rw [zset_o (by decide)]; exact hP.hl, fun a c d e f g => by rw [zset_o (by decide)]; exact hP.ga a c d e f g⟩ hm' hv') | fail
            · refine z_al0 eX7_planDay_177 hne ?_
              first | refine z_ta0 lX7_9 eX7_planDay_178 rfl hT hA (by decide) rfl rfl ?_ | refine z_ta lX7_9 eX7_planDay_178 rfl hT hA ⟨by decide, by decide⟩ rfl rfl ?_
              refine z_il2 eX7_planDay_181 ?_
              refine z_sipush eX7_planDay_182 (by decide) ?_
              refine z_imul eX7_planDay_185 ?_
              refine z_il3 eX7_planDay_186 ?_
              refine z_iadd eX7_planDay_187 ?_
              refine z_al0 eX7_planDay_188 hne ?_
              refine z_il2 eX7_planDay_189 ?_
              refine z_il3 eX7_planDay_190 ?_
              refine z_V2 eX7_planDay_191 vX7_76 rfl rfl (Nat.le_of_ble_eq_true rfl) (Nat.le_of_ble_eq_true rfl) ((hA).L0 hT (by decide)) (c_X7_mostFrom hT hP hm hO ⟨k0, k1⟩ ⟨⟨u0, u1⟩, by omega, by omega⟩) ?_
              refine z_ts eX7_planDay_194 hT hA ⟨by decide, by decide⟩ rfl rfl ⟨by omega, by omega⟩ ?_
              refine z_ii3 eX7_planDay_195 (Nat.ne_of_beq_eq_false rfl) ?_
              refine z_goto eX7_planDay_198 (tgt := 151) rfl ?_
              first | exact iu _ hS hR hP hm (hno (fun z => h166 z.2.1)) | exact iu _ hS hR hP hm (hno (fun z => by have := z.2.2; omega)) | (exact iu _ (hS.pl hd hup) (hR.fr (hR.1.far (fun i i0 i1 => hup _ (by omega))) (hup b (by omega))) ⟨by rw [zset_o (by decide)]; exact hP.wa, by rw [zset_o (by decide)]; exact hP.hl, fun a c d e f g => by rw [zset_o (by decide)]; exact hP.ga a c d e f g⟩ hm' hv') | fail
      refine z_il2 eX7_planDay_145 ?_
      refine z_if_lt (tgt := 207) eX7_planDay_146 rfl ⟨by omega, by omega⟩ (fun h146 => (by exfalso; omega)) (fun h146 => ?_)
      refine z_iconst eX7_planDay_149 ?_
      refine z_is3 eX7_planDay_150 (Nat.ne_of_beq_eq_false rfl) ?_
      exact hin 0 (by decide) (by decide) S hS hR hP hm (fun v v0 v1 => by omega)
  have w35 : ∀ k : Int, 0 ≤ k → k ≤ 12 - M 6 → ∀ (S C : zMem) (y3 y4 : zAV), zPd b σ C0 S C → CoR lay x C S b M → S 310 2 = qInSt M 0 → S 310 3 = 12 - M 6 → (∀ t, 0 ≤ t → t < 5 → S (b + 4 + 2) t = qCh M k t) → (∀ a i, 0 ≤ a → a < k → 0 ≤ i → i < M 4 → S 312 (a * 8 + i) = qBring M i (M 6 + a)) → zW G KX7_planDay 7 Q 35 [zP (x + 310), zP (x + b), zI k, y3, y4] [] lay (tC x S C) nx (0, 0) := by
    refine z_up (12 - M 6) ?_ ?_
    · intro S C y3 y4 hS hR h1 h2 h3 h4
      have hf : zOut 310 3 S (zfil S (310 + 1) 3328 0) := fun i hi => by funext j; unfold zfil; rw [if_neg (by omega)]
      have hfo : ∀ i, i ≠ 311 → zfil S (310 + 1) 3328 0 i = S i := fun i hi => by funext j; unfold zfil; rw [if_neg (by omega)]
      refine z_il2 eX7_planDay_35 ?_
      refine z_al0 eX7_planDay_36 hne ?_
      first | refine z_tg0 (j := 3) lX7_43 eX7_planDay_37 rfl hT hA (by decide) rfl rfl rfl ?_ | refine z_tg (j := 3) lX7_43 eX7_planDay_37 rfl hT hA ⟨by decide, by decide⟩ rfl rfl rfl ?_
      rw [show S 310 3 = 12 - M 6 from h2]
      refine z_icmp_ge (tgt := 130) eX7_planDay_40 rfl ⟨⟨by omega, by omega⟩, ⟨by omega, by omega⟩⟩ (fun h40 => ?_) (fun h40 => (by exfalso; omega))
      refine z_al0 eX7_planDay_130 hne ?_
      first | refine z_ta0 lX7_9 eX7_planDay_131 rfl hT hA (by decide) rfl rfl ?_ | refine z_ta lX7_9 eX7_planDay_131 rfl hT hA ⟨by decide, by decide⟩ rfl rfl ?_
      refine z_iconst eX7_planDay_134 ?_
      refine z_S2v eX7_planDay_135 vX7_65 rfl rfl (Nat.le_of_ble_eq_true rfl) (Nat.le_of_ble_eq_true rfl) (c_J7_fill_53178 (by omega) (hA.LL hT ⟨by decide, by decide⟩) ⟨by decide, by decide⟩) ?_
      rw [tC_fil (hA.1 _ (by decide) (by decide)) (fun _ => hA.nn ⟨by decide, by decide⟩ rfl)]
      refine z_al0 eX7_planDay_138 hne ?_
      first | refine z_tg0 (j := 3) lX7_43 eX7_planDay_139 rfl hT hA (by decide) rfl rfl rfl ?_ | refine z_tg (j := 3) lX7_43 eX7_planDay_139 rfl hT hA ⟨by decide, by decide⟩ rfl rfl rfl ?_
      rw [hfo 310 (by decide), h2]
      refine z_iconst eX7_planDay_142 ?_
      refine z_isub eX7_planDay_143 ?_
      refine z_is2 eX7_planDay_144 (Nat.ne_of_beq_eq_false rfl) ?_
      refine w145 (12 - M 6 - 1) (by omega) (by omega) _ _ _ _ (hS.pl hd hf) (hR.fr (hR.1.far (fun i i0 i1 => hf _ (by omega))) (hf b (by omega))) ⟨by rw [hfo 310 (by decide)]; exact h1, by rw [hfo 310 (by decide)]; exact h2, fun a c d e f g => by rw [hfo 312 (by decide)]; exact h4 a c d e f g⟩ (fun a c d e f => ?_)
      rw [show a = 12 - M 6 by omega]
      unfold zfil
      rw [if_pos ⟨rfl, by have := f.1; omega, by have := f.1; omega⟩, show M 6 + (12 - M 6) = 12 by omega]
      rfl
    · intro k k0 k1 ih S C y3 y4 hS hR h1 h2 h3 h4
      have hin : ∀ i : Int, 0 ≤ i → i ≤ M 4 → ∀ (S2 C2 : zMem) (y4 : zAV), zPd b σ C0 S2 C2 → CoR lay x C2 S2 b M → S2 310 2 = qInSt M 0 → S2 310 3 = 12 - M 6 → (∀ t, 0 ≤ t → t < 5 → S2 (b + 4 + 2) t = qCh M (k + 1) t) → (∀ a j, 0 ≤ a → a < k → 0 ≤ j → j < M 4 → S2 312 (a * 8 + j) = qBring M j (M 6 + a)) → (∀ j, 0 ≤ j → j < i → S2 312 (k * 8 + j) = qBring M j (M 6 + k)) → zW G KX7_planDay 7 Q 52 [zP (x + 310), zP (x + b), zI k, zI i, y4] [] lay (tC x S2 C2) nx (0, 0) := by
        refine z_up (M 4) ?_ ?_
        · intro S2 C2 y4 hS hR g1 g2 g3 g4 g5
          refine z_il3 eX7_planDay_52 ?_
          refine z_al1 eX7_planDay_53 (by omega) ?_
          first | refine z_ta0 lX7_18 eX7_planDay_54 rfl hT hB (by decide) rfl rfl ?_ | refine z_ta lX7_18 eX7_planDay_54 rfl hT hB ⟨by decide, by decide⟩ rfl rfl ?_
          first | refine z_tg0 (j := 0) lX7_52 eX7_planDay_57 rfl hT hB.mo (by decide) rfl rfl rfl ?_ | refine z_tg (j := 0) lX7_52 eX7_planDay_57 rfl hT hB.mo ⟨by decide, by decide⟩ rfl rfl rfl ?_
          rw [hR.1.mo.1]
          refine z_icmp_ge (tgt := 124) eX7_planDay_60 rfl ⟨⟨by omega, by omega⟩, ⟨by omega, by omega⟩⟩ (fun h60 => ?_) (fun h60 => (by exfalso; omega))
          refine z_ii2 eX7_planDay_124 (Nat.ne_of_beq_eq_false rfl) ?_
          refine z_goto eX7_planDay_127 (tgt := 35) rfl ?_
          refine ih _ _ _ _ hS hR g1 g2 g3 (fun a j a0 a1 j0 j1 => ?_)
          by_cases e : a = k
          · rw [e]; exact g5 j j0 j1
          · exact g4 a j a0 (by omega) j0 j1
        · intro i i0 i1 iu S2 C2 y4 hS hR g1 g2 g3 g4 g5
          have hw := qInSt_B hI 0 (i := i) ⟨i0, by omega⟩
          have hq : ∀ (S3 C3 : zMem) (v : Int), v = qBring M i (M 6 + k) → zFc b S2 C2 S3 C3 → zW G KX7_planDay 7 Q 52 [zP (x + 310), zP (x + b), zI k, zI (i + 1), y4] [] lay (tC x (zset S3 (310 + 2) (k * 8 + i) v) C3) nx (0, 0) → True := fun _ _ _ _ _ _ => trivial
          have hst : ∀ (S3 C3 : zMem) (v : Int) (y4 : zAV), v = qBring M i (M 6 + k) → zFc b S2 C2 S3 C3 → zW G KX7_planDay 7 Q 52 [zP (x + 310), zP (x + b), zI k, zI (i + 1), y4] [] lay (tC x (zset S3 (310 + 2) (k * 8 + i) v) C3) nx (0, 0) := by
            intro S3 C3 v y4 hv hF
            have hup : zOut 310 3 S3 (zset S3 (310 + 2) (k * 8 + i) v) := (zOut.refl _ _ _).set ⟨by omega, by omega⟩
            have hR3 := hR.fc hF
            have e0 : S3 310 = S2 310 := hF.1 _ (by omega)
            have e2 : S3 312 = S2 312 := hF.1 _ (by omega)
            refine iu _ _ _ ((hS.fc hF).pl hd hup) (hR3.fr (hR3.1.far (fun i i0 i1 => hup _ (by omega))) (hup b (by omega))) (by rw [zset_o (by decide), e0]; exact g1) (by rw [zset_o (by decide), e0]; exact g2) (fun t t0 t1 => by rw [zset_o (by omega), hF.1 _ (by omega)]; exact g3 t t0 t1) (fun a j a0 a1 j0 j1 => ?_) (fun j j0 j1 => ?_)
            · rw [show (312 : Int) = 310 + 2 by decide, zset_f (by omega), show (310 : Int) + 2 = 312 by decide, e2]; exact g4 a j a0 a1 j0 j1
            · rw [show (312 : Int) = 310 + 2 by decide]
              by_cases e : j = i
              · rw [e, zset_eq]; exact hv
              · rw [zset_f (by omega), show (310 : Int) + 2 = 312 by decide, e2]; exact g5 j j0 (by omega)
          have hct : zCh (S2 (b + 4 + 2)) := (qCh_ok hO (show 0 ≤ k + 1 by omega)).c g3
          have z01 := zbit_01 (qInSt M 0) i
          refine z_il3 eX7_planDay_52 ?_
          refine z_al1 eX7_planDay_53 (by omega) ?_
          first | refine z_ta0 lX7_18 eX7_planDay_54 rfl hT hB (by decide) rfl rfl ?_ | refine z_ta lX7_18 eX7_planDay_54 rfl hT hB ⟨by decide, by decide⟩ rfl rfl ?_
          first | refine z_tg0 (j := 0) lX7_52 eX7_planDay_57 rfl hT hB.mo (by decide) rfl rfl rfl ?_ | refine z_tg (j := 0) lX7_52 eX7_planDay_57 rfl hT hB.mo ⟨by decide, by decide⟩ rfl rfl rfl ?_
          rw [hR.1.mo.1]
          refine z_icmp_ge (tgt := 124) eX7_planDay_60 rfl ⟨⟨by omega, by omega⟩, ⟨by omega, by omega⟩⟩ (fun h60 => (by exfalso; omega)) (fun h60 => ?_)
          refine z_al0 eX7_planDay_63 hne ?_
          first | refine z_tg0 (j := 2) lX7_30 eX7_planDay_64 rfl hT hA (by decide) rfl rfl rfl ?_ | refine z_tg (j := 2) lX7_30 eX7_planDay_64 rfl hT hA ⟨by decide, by decide⟩ rfl rfl rfl ?_
          rw [g1]
          refine z_il3 eX7_planDay_67 ?_
          refine z_N2 eX7_planDay_68 vX7_55 rfl (Nat.le_of_ble_eq_true rfl) (Nat.le_of_ble_eq_true rfl) (c_X11_bitOf hT ⟨by omega, by omega⟩) ?_
          refine z_iconst eX7_planDay_71 ?_
          refine z_icmp_ne (tgt := 92) eX7_planDay_72 rfl ⟨⟨by omega, by omega⟩, ⟨by omega, by omega⟩⟩ (fun h72 => ?_) (fun h72 => ?_)
          · refine z_iconst eX7_planDay_92 ?_
            refine z_is4 eX7_planDay_93 (Nat.ne_of_beq_eq_false rfl) ?_
            refine z_al0 eX7_planDay_95 hne ?_
            first | refine z_ta0 lX7_15 eX7_planDay_96 rfl hT hA (by decide) rfl rfl ?_ | refine z_ta lX7_15 eX7_planDay_96 rfl hT hA ⟨by decide, by decide⟩ rfl rfl ?_
            refine z_il2 eX7_planDay_99 ?_
            refine z_bipush eX7_planDay_100 (by decide) ?_
            refine z_imul eX7_planDay_102 ?_
            refine z_il3 eX7_planDay_103 ?_
            refine z_iadd eX7_planDay_104 ?_
            refine z_il4 eX7_planDay_105 ?_
            refine z_al1 eX7_planDay_107 (by omega) ?_
            first | refine z_ta0 lX7_18 eX7_planDay_108 rfl hT hB (by decide) rfl rfl ?_ | refine z_ta lX7_18 eX7_planDay_108 rfl hT hB ⟨by decide, by decide⟩ rfl rfl ?_
            first | refine z_ta0 lX7_62 eX7_planDay_111 rfl hT hB.mo (by decide) rfl rfl ?_ | refine z_ta lX7_62 eX7_planDay_111 rfl hT hB.mo ⟨by decide, by decide⟩ rfl rfl ?_
            refine z_il3 eX7_planDay_114 ?_
            refine z_tl eX7_planDay_115 hT hB.mo ⟨by decide, by decide⟩ rfl rfl ⟨by omega, by omega⟩ ?_
            first | rw [(hR8.1.mo.2.1 i i0 i1).2.2.1] | rw [(hR.1.mo.2.1 i i0 i1).2.2.1]
            refine z_imul eX7_planDay_116 ?_
            refine z_ts eX7_planDay_117 hT hA ⟨by decide, by decide⟩ rfl rfl ⟨by omega, by omega⟩ ?_
            refine z_ii3 eX7_planDay_118 (Nat.ne_of_beq_eq_false rfl) ?_
            refine z_goto eX7_planDay_121 (tgt := 52) rfl ?_
            first | exact hst _ _ _ _ (by unfold qBring; rw [if_pos (hw.mp (by omega)).2, show M 6 + k - M 6 + 1 = k + 1 by omega]) hs86 | exact hst _ _ _ _ (by unfold qBring; rw [if_neg (fun z => h72 (hw.mpr ⟨i1, z⟩)), Int.zero_mul]) (zFc.refl _ _ _) | fail
          · refine z_al1 eX7_planDay_75 (by omega) ?_
            refine z_il3 eX7_planDay_76 ?_
            refine z_al1 eX7_planDay_77 (by omega) ?_
            first | refine z_ta0 lX7_34 eX7_planDay_78 rfl hT hB (by decide) rfl rfl ?_ | refine z_ta lX7_34 eX7_planDay_78 rfl hT hB ⟨by decide, by decide⟩ rfl rfl ?_
            first | refine z_tg0 (j := 1) lX7_38 eX7_planDay_81 rfl hT hB.we (by decide) rfl rfl rfl ?_ | refine z_tg (j := 1) lX7_38 eX7_planDay_81 rfl hT hB.we ⟨by decide, by decide⟩ rfl rfl rfl ?_
            rw [hR.1.we.1.2.1]
            refine z_il2 eX7_planDay_84 ?_
            refine z_iadd eX7_planDay_85 ?_
            refine z_V2y eX7_planDay_86 vX7_59 rfl rfl (Nat.le_of_ble_eq_true rfl) (Nat.le_of_ble_eq_true rfl) ((hB).L0 hT (by decide)) (c_X1_carriedThen hT hB hR hM hct ⟨i0, i1⟩ ⟨by omega, by omega⟩) (fun s86 C86 hs86 => ?_)
            rw [qCarH_q h6.1 ⟨k0, by omega⟩ g3]
            have hR8 := hR.fc hs86
            refine z_goto eX7_planDay_89 (tgt := 93) rfl ?_
            refine z_is4 eX7_planDay_93 (Nat.ne_of_beq_eq_false rfl) ?_
            refine z_al0 eX7_planDay_95 hne ?_
            first | refine z_ta0 lX7_15 eX7_planDay_96 rfl hT hA (by decide) rfl rfl ?_ | refine z_ta lX7_15 eX7_planDay_96 rfl hT hA ⟨by decide, by decide⟩ rfl rfl ?_
            refine z_il2 eX7_planDay_99 ?_
            refine z_bipush eX7_planDay_100 (by decide) ?_
            refine z_imul eX7_planDay_102 ?_
            refine z_il3 eX7_planDay_103 ?_
            refine z_iadd eX7_planDay_104 ?_
            refine z_il4 eX7_planDay_105 ?_
            refine z_al1 eX7_planDay_107 (by omega) ?_
            first | refine z_ta0 lX7_18 eX7_planDay_108 rfl hT hB (by decide) rfl rfl ?_ | refine z_ta lX7_18 eX7_planDay_108 rfl hT hB ⟨by decide, by decide⟩ rfl rfl ?_
            first | refine z_ta0 lX7_62 eX7_planDay_111 rfl hT hB.mo (by decide) rfl rfl ?_ | refine z_ta lX7_62 eX7_planDay_111 rfl hT hB.mo ⟨by decide, by decide⟩ rfl rfl ?_
            refine z_il3 eX7_planDay_114 ?_
            refine z_tl eX7_planDay_115 hT hB.mo ⟨by decide, by decide⟩ rfl rfl ⟨by omega, by omega⟩ ?_
            first | rw [(hR8.1.mo.2.1 i i0 i1).2.2.1] | rw [(hR.1.mo.2.1 i i0 i1).2.2.1]
            refine z_imul eX7_planDay_116 ?_
            refine z_ts eX7_planDay_117 hT hA ⟨by decide, by decide⟩ rfl rfl ⟨by omega, by omega⟩ ?_
            refine z_ii3 eX7_planDay_118 (Nat.ne_of_beq_eq_false rfl) ?_
            refine z_goto eX7_planDay_121 (tgt := 52) rfl ?_
            first | exact hst _ _ _ _ (by unfold qBring; rw [if_pos (hw.mp (by omega)).2, show M 6 + k - M 6 + 1 = k + 1 by omega]) hs86 | exact hst _ _ _ _ (by unfold qBring; rw [if_neg (fun z => h72 (hw.mpr ⟨i1, z⟩)), Int.zero_mul]) (zFc.refl _ _ _) | fail
      refine z_il2 eX7_planDay_35 ?_
      refine z_al0 eX7_planDay_36 hne ?_
      first | refine z_tg0 (j := 3) lX7_43 eX7_planDay_37 rfl hT hA (by decide) rfl rfl rfl ?_ | refine z_tg (j := 3) lX7_43 eX7_planDay_37 rfl hT hA ⟨by decide, by decide⟩ rfl rfl rfl ?_
      rw [show S 310 3 = 12 - M 6 from h2]
      refine z_icmp_ge (tgt := 130) eX7_planDay_40 rfl ⟨⟨by omega, by omega⟩, ⟨by omega, by omega⟩⟩ (fun h40 => (by exfalso; omega)) (fun h40 => ?_)
      refine z_al1 eX7_planDay_43 (by omega) ?_
      first | refine z_ta0 lX7_34 eX7_planDay_44 rfl hT hB (by decide) rfl rfl ?_ | refine z_ta lX7_34 eX7_planDay_44 rfl hT hB ⟨by decide, by decide⟩ rfl rfl ?_
      refine z_V0vz eX7_planDay_47 vX7_49 rfl rfl (Nat.le_of_ble_eq_true rfl) (Nat.le_of_ble_eq_true rfl) ((hB.we).L0 hT (by decide)) (c_X9_spreadHour hT hB.we hR.1.we hO ((qCh_ok hO k0).c h3)) (fun s47 hs47 => ?_)
      have c0 : s47 b = S b := hs47.1 _ (by omega)
      have hN7 := hR.1.weq hI hs47.1 hs47.2.1
      refine z_iconst eX7_planDay_50 ?_
      refine z_is3 eX7_planDay_51 (Nat.ne_of_beq_eq_false rfl) ?_
      exact hin 0 (by decide) hm4.1 _ _ _ (hS.we hs47.1) (hR.fr hN7 c0) (by rw [hs47.1 _ (by omega)]; exact h1) (by rw [hs47.1 _ (by omega)]; exact h2) (fun t t0 t1 => by rw [hs47.2.2 t t0 t1, qCh_s M k0]; exact qGoC_c h3 t) (fun a j a0 a1 j0 j1 => by rw [hs47.1 _ (by omega)]; exact h4 a j a0 a1 j0 j1) (fun j j0 j1 => by omega)
  rw [hQ]
  have hu1 : zOut 310 3 σ (zset σ 310 2 (qInSt M 0)) := (zOut.refl _ _ _).set ⟨by omega, by omega⟩
  have hu2 : zOut 310 3 σ (zset (zset σ 310 2 (qInSt M 0)) 310 3 (12 - M 6)) := hu1.set ⟨by omega, by omega⟩
  have hN1 : CoN (zset σ 310 2 (qInSt M 0)) b M := hR.1.far (fun i i0 i1 => hu1 _ (by omega))
  have hN2 : CoN (zset (zset σ 310 2 (qInSt M 0)) 310 3 (12 - M 6)) b M := hR.1.far (fun i i0 i1 => hu2 _ (by omega))
  refine z_al0 eX7_planDay_0 hne ?_
  refine z_al1 eX7_planDay_1 (by omega) ?_
  first | refine z_ta0 lX7_18 eX7_planDay_2 rfl hT hB (by decide) rfl rfl ?_ | refine z_ta lX7_18 eX7_planDay_2 rfl hT hB ⟨by decide, by decide⟩ rfl rfl ?_
  refine z_iconst eX7_planDay_5 ?_
  refine z_V1 eX7_planDay_6 vX7_24 rfl rfl (Nat.le_of_ble_eq_true rfl) (Nat.le_of_ble_eq_true rfl) ((hB.mo).L0 hT (by decide)) (c_X6_inState hT hB.mo hR.1.mo hI (by decide)) ?_
  first | refine z_tp0 (j := 2) lX7_30 eX7_planDay_9 rfl hT hA (by decide) rfl rfl rfl ?_ | refine z_tp (j := 2) lX7_30 eX7_planDay_9 rfl hT hA ⟨by decide, by decide⟩ rfl rfl rfl ?_
  refine z_al0 eX7_planDay_12 hne ?_
  refine z_bipush eX7_planDay_13 (by decide) ?_
  refine z_al1 eX7_planDay_15 (by omega) ?_
  first | refine z_ta0 lX7_34 eX7_planDay_16 rfl hT hB (by decide) rfl rfl ?_ | refine z_ta lX7_34 eX7_planDay_16 rfl hT hB ⟨by decide, by decide⟩ rfl rfl ?_
  first | refine z_tg0 (j := 1) lX7_38 eX7_planDay_19 rfl hT hB.we (by decide) rfl rfl rfl ?_ | refine z_tg (j := 1) lX7_38 eX7_planDay_19 rfl hT hB.we ⟨by decide, by decide⟩ rfl rfl rfl ?_
  rw [hN1.we.1.2.1]
  refine z_isub eX7_planDay_22 ?_
  first | refine z_tp0 (j := 3) lX7_43 eX7_planDay_23 rfl hT hA (by decide) rfl rfl rfl ?_ | refine z_tp (j := 3) lX7_43 eX7_planDay_23 rfl hT hA ⟨by decide, by decide⟩ rfl rfl rfl ?_
  refine z_al1 eX7_planDay_26 (by omega) ?_
  first | refine z_ta0 lX7_34 eX7_planDay_27 rfl hT hB (by decide) rfl rfl ?_ | refine z_ta lX7_34 eX7_planDay_27 rfl hT hB ⟨by decide, by decide⟩ rfl rfl ?_
  refine z_V0vz eX7_planDay_30 vX7_46 rfl rfl (Nat.le_of_ble_eq_true rfl) (Nat.le_of_ble_eq_true rfl) ((hB.we).L0 hT (by decide)) (c_X9_startChances hT hB.we hN2.we hO) (fun s30 hs30 => ?_)
  have hN3 := hN2.weq hI hs30.1 hs30.2.1
  refine z_iconst eX7_planDay_33 ?_
  refine z_is2 eX7_planDay_34 (Nat.ne_of_beq_eq_false rfl) ?_
  exact w35 0 (by decide) (by omega) _ _ _ _ ⟨fun i i1 i2 => by rw [hs30.1 _ (by omega)]; exact hu2 i i1, by rw [hs30.1 _ (by omega)]; exact hu2 b (by omega), zStk.refl _ _⟩ (hR.fr hN3 (by rw [hs30.1 _ (by omega)]; exact hu2 b (by omega))) (by rw [hs30.1 _ (by omega), zset_f (by decide), zset_eq]) (by rw [hs30.1 _ (by omega), zset_eq]) (fun t t0 t1 => hs30.2.2 t t0 t1) (fun a j a0 a1 => by omega)
