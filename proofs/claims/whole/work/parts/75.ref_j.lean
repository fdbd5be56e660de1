/-! The best paper. -/
/-- the first from k on, below n -/
noncomputable def qFrom (p : Int → Prop) (k n : Int) : Int := qFst p (n - k).toNat k
theorem qFrom_ge {p : Int → Prop} {k n : Int} (h : n ≤ k) : qFrom p k n = -1 := by unfold qFrom; rw [show (n - k).toNat = 0 by omega]; rfl
theorem qFrom_s {p : Int → Prop} {k n : Int} (h : k < n) : qFrom p k n = zif (p k) k (qFrom p (k + 1) n) := by
  unfold qFrom
  rw [show (n - k).toNat = (n - (k + 1)).toNat + 1 by omega]
  rfl
theorem qFst_sp {p : Int → Prop} : ∀ (m : Nat) (k : Int), (qFst p m k = -1 ∧ ∀ i, k ≤ i → i < k + m → ¬ p i) ∨ (k ≤ qFst p m k ∧ qFst p m k < k + m ∧ p (qFst p m k) ∧ ∀ i, k ≤ i → i < qFst p m k → ¬ p i) := by
  intro m
  induction m with
  | zero => intro k; exact Or.inl ⟨rfl, fun i h0 h1 => by omega⟩
  | succ m ih =>
    intro k
    unfold qFst
    by_cases h : p k
    · rw [zif_t h]
      exact Or.inr ⟨Int.le_refl k, by omega, h, fun i h0 h1 => by omega⟩
    · rw [zif_f h]
      rcases ih (k + 1) with ⟨a, b⟩ | ⟨a, b, c, d⟩
      · exact Or.inl ⟨a, fun i h0 h1 => by
          by_cases e : i = k
          · rw [e]; exact h
          · exact b i (by omega) (by omega)⟩
      · exact Or.inr ⟨by omega, by omega, c, fun i h0 h1 => by
          by_cases e : i = k
          · rw [e]; exact h
          · exact d i (by omega) h1⟩
theorem qFrom_sp {p : Int → Prop} {k n : Int} (h : k ≤ n) : (qFrom p k n = -1 ∧ ∀ i, k ≤ i → i < n → ¬ p i) ∨ (k ≤ qFrom p k n ∧ qFrom p k n < n ∧ p (qFrom p k n) ∧ ∀ i, k ≤ i → i < qFrom p k n → ¬ p i) := by
  have := qFst_sp (p := p) (n - k).toNat k
  unfold qFrom
  rw [show k + ((n - k).toNat : Int) = n by omega] at this
  exact this
noncomputable def qTab (M : Int → Int) (h set : Int) : Int := qPap M (12 - h).toNat set
def qBestP (M : Int → Int) (h set : Int) (k : Int) : Prop := M (74 + 5 * k + 4) = 0 ∧ ¬ zbit set k = 1 ∧ qBring M k h + qTab M (h + 1) (zor set (zshl 1 k)) = qTab M h set
noncomputable def qBestH (M : Int → Int) (h set : Int) : Int × Int := if qTab M (h + 1) set = qTab M h set then (set, -1) else (zor set (zshl 1 (qFrom (qBestP M h set) 0 (M 4))), qFrom (qBestP M h set) 0 (M 4))
noncomputable def qBestN (M : Int → Int) (n : Int) : Int × Int := zfold (fun i (r : Int × Int) => qBestH M (M 6 + i) r.1) (0, -1) n
theorem qTab_s {M : Int → Int} {h : Int} (h12 : h < 12) (set : Int) : qTab M h set = zfold (qPapK M h (qTab M (h + 1)) set) (qTab M (h + 1) set) (M 4) := by
  unfold qTab
  have e : qTab M (h + 1) = qPap M (12 - (h + 1)).toNat := rfl
  rw [show (12 - h).toNat = (12 - (h + 1)).toNat + 1 by omega, qPap_s, show (11 : Int) - ((12 - (h + 1)).toNat : Int) = h by omega, ← e]
theorem qFound {M : Int → Int} {h set : Int} (hM : zOK M) (h12 : h < 12) (hne : ¬ qTab M (h + 1) set = qTab M h set) : 0 ≤ qFrom (qBestP M h set) 0 (M 4) ∧ qFrom (qBestP M h set) 0 (M 4) < 8 := by
  have h4 := hM.1.m4
  have hp : zfold (qPapK M h (qTab M (h + 1)) set) (qTab M (h + 1) set) (M 4) = qTab M (h + 1) set ∨ ∃ k, 0 ≤ k ∧ k < M 4 ∧ M (74 + 5 * k + 4) = 0 ∧ ¬ zbit set k = 1 ∧ zfold (qPapK M h (qTab M (h + 1)) set) (qTab M (h + 1) set) (M 4) = qBring M k h + qTab M (h + 1) (zor set (zshl 1 k)) :=
    zfold_P (f := qPapK M h (qTab M (h + 1)) set) (P := fun n r => r = qTab M (h + 1) set ∨ ∃ k, 0 ≤ k ∧ k < n ∧ M (74 + 5 * k + 4) = 0 ∧ ¬ zbit set k = 1 ∧ r = qBring M k h + qTab M (h + 1) (zor set (zshl 1 k))) (s := qTab M (h + 1) set) (Or.inl rfl) (fun t r ht hr => by
      have hr2 : r = qTab M (h + 1) set ∨ ∃ k, 0 ≤ k ∧ k < t + 1 ∧ M (74 + 5 * k + 4) = 0 ∧ ¬ zbit set k = 1 ∧ r = qBring M k h + qTab M (h + 1) (zor set (zshl 1 k)) := by
        rcases hr with e | ⟨k, a, b, c, d, e⟩
        · exact Or.inl e
        · exact Or.inr ⟨k, a, by omega, c, d, e⟩
      unfold qPapK qGr
      split
      · rename_i hc
        split
        · exact hr2
        · exact Or.inr ⟨t, ht, by omega, hc.1, hc.2, rfl⟩
      · exact hr2) (M 4) h4.1
  rw [← qTab_s h12 set] at hp
  rcases hp with e | ⟨k, a, b, c, d, e⟩
  · exact absurd e.symm hne
  · rcases qFrom_sp (p := qBestP M h set) (k := 0) (n := M 4) h4.1 with ⟨f, g⟩ | ⟨f, g, _⟩
    · exact absurd ⟨c, d, e.symm⟩ (g k a b)
    · exact ⟨f, by omega⟩
theorem qBestN_bd {M : Int → Int} (hM : zOK M) {n : Int} (hn : 0 ≤ n) (h12 : M 6 + n ≤ 12) : 0 ≤ (qBestN M n).1 ∧ (qBestN M n).1 < 256 := by
  have : M 6 + n ≤ 12 → 0 ≤ (qBestN M n).1 ∧ (qBestN M n).1 < 256 := by
    unfold qBestN
    exact zfold_P (f := fun i (r : Int × Int) => qBestH M (M 6 + i) r.1) (P := fun n (r : Int × Int) => M 6 + n ≤ 12 → 0 ≤ r.1 ∧ r.1 < 256) (s := (0, -1)) (fun _ => by decide) (fun t r ht hr h => by
      have h1 := hr (by omega)
      unfold qBestH
      split
      · exact h1
      · rename_i hne
        exact zor_256 h1 (qFound hM (by omega) hne)) n hn
  exact this h12
theorem qTab_bd {M : Int → Int} (hM : zOK M) {h : Int} (hh : M 6 ≤ h) (h12 : h ≤ 12) (set : Int) : 0 ≤ qTab M h set ∧ qTab M h set ≤ 60000000 := by
  have h6 := hM.1.s 6 rfl (by omega)
  have := qPap_bd hM (12 - h).toNat (by omega) set
  unfold qTab
  omega
noncomputable def qBest (M : Int → Int) (hour : Int) : Int := if hour = -1 then qTab M (M 6) 0 / 10000 else if hour < M 6 then -1 else (qBestN M (hour - M 6 + 1)).2
def zTabI (σ : zMem) (S : zMem) : Prop := zScx σ S ∧ ∀ h set, σ 1 6 ≤ h → h ≤ 12 → 0 ≤ set → set < 256 → S 11 (256 * h + set) = qTab (σ 1) h set
theorem zTabI.w {σ S s : zMem} (h : zTabI σ S) (h2 : zScw S s) : zTabI σ s := ⟨h.1.trans h2.x, fun a b c d e f => by rw [h2.r11]; exact h.2 a b c d e f⟩
theorem m_X12_best {G : zG} {lay : zLay} {σ C0 : zMem} {nx x : Int} {n : Int} (hR : RefL lay x) (hS : TxS lay C0) (hJ : zJs σ) (hM : zOL (σ 1)) (hn : zin n) : zMM G 71 KX12_best [zP x, zI n] lay (rC x σ C0) nx (0, 0) (zX' (some (zI (if n = -1 ∨ 0 ≤ n ∧ n < 12 then qBest (σ 1) n else 0))) (zScx (zset σ 0 0 (if n = -1 ∨ 0 ≤ n ∧ n < 12 then 0 else 1))) lay C0 nx x) := by
  refine z_met' (L := [zP x, zI n, zU, zU, zU, zU]) gX12_best.1 rfl rfl (Nat.le_of_ble_eq_true rfl) rfl ?_
  obtain ⟨n1, n2⟩ := hn
  have hm4 := hM.1.1.m4
  have h6 := hM.1.1.s 6 rfl (by omega)
  have hJ1 : ∀ v, zJs (zset σ 0 0 v) := fun v => hJ.set (by decide) (fun _ => Or.inl rfl)
  by_cases hok : n = -1 ∨ 0 ≤ n ∧ n < 12
  · rw [if_pos hok, if_pos hok]
    obtain ⟨τ, hτ, hτ1, hJτ⟩ : ∃ τ, zset σ 0 0 0 = τ ∧ τ 1 = σ 1 ∧ zJs τ := ⟨_, rfl, zset_001, hJ1 0⟩
    rw [hτ, ← hτ1]
    have hO : zOL (τ 1) := by rw [hτ1]; exact hM
    rw [← hτ1] at hm4 h6
    have w86 : (0 ≤ n ∧ n < 12) → ∀ i : Int, 0 ≤ i → i ≤ n - τ 1 6 + 1 → ∀ (S : zMem) (y5 : zAV), zTabI τ S → zW G KX12_best 71 (zX' (some (zI (qBestN (τ 1) (n - τ 1 6 + 1)).2)) (zScx τ) lay C0 nx x) 86 [zP x, zI n, zI (qBestN (τ 1) i).1, zI (qBestN (τ 1) i).2, zI (τ 1 6 + i), y5] [] lay (rC x S C0) nx (0, 0) := by
      intro hnn
      refine z_up (n - τ 1 6 + 1) ?_ ?_
      · intro S y5 hI
        refine z_il4 eX12_best_86 ?_
        refine z_il1 eX12_best_88 ?_
        refine z_icmp_gt (tgt := 227) eX12_best_89 rfl ⟨⟨by omega, by omega⟩, ⟨by omega, by omega⟩⟩ (fun h89 => ?_) (fun h89 => (by exfalso; omega))
        refine z_il3 eX12_best_227 ?_
        refine z_ireturn eX12_best_228 rfl ?_
        exact zXe hI.1 rfl
      · intro i i0 i1 ih S y5 hI
        have hb := qBestN_bd hO.1 (n := i) i0 (by omega)
        have e : qBestN (τ 1) (i + 1) = qBestH (τ 1) (τ 1 6 + i) (qBestN (τ 1) i).1 := by unfold qBestN; rw [zfold_s _ _ i0]
        rw [e] at ih
        generalize (qBestN (τ 1) i).1 = set at ih hb ⊢
        generalize hh : τ 1 6 + i = h at ih ⊢
        have hS1 := hI.1.r1
        have t1 := hI.2 (h + 1) set (by omega) (by omega) hb.1 hb.2
        have t0 := hI.2 h set (by omega) (by omega) hb.1 hb.2
        have b1 := qTab_bd hO.1 (h := h + 1) (by omega) (by omega) set
        have b0 := qTab_bd hO.1 (h := h) (by omega) (by omega) set
        have w138 : ¬ qTab (τ 1) (h + 1) set = qTab (τ 1) h set → ∀ k : Int, -1 ≤ k → k < τ 1 4 → ∀ S : zMem, zTabI τ S → zW G KX12_best 71 (zX' (some (zI (qBestN (τ 1) (n - τ 1 6 + 1)).2)) (zScx τ) lay C0 nx x) 138 [zP x, zI n, zI set, zI (qFrom (qBestP (τ 1) h set) (k + 1) (τ 1 4)), zI h, zI k] [] lay (rC x S C0) nx (0, 0) := by
          intro hne
          refine z_down ?_ (τ 1 4) ?_
          · intro S hI
            have eh : qBestH (τ 1) h set = (zor set (zshl 1 (qFrom (qBestP (τ 1) h set) 0 (τ 1 4))), qFrom (qBestP (τ 1) h set) 0 (τ 1 4)) := by unfold qBestH; rw [if_neg hne]
            rw [eh, show τ 1 6 + (i + 1) = h + 1 by omega] at ih
            rw [show (-1 : Int) + 1 = 0 by decide]
            refine z_il5 eX12_best_138 ?_
            refine z_if_lt (tgt := 215) eX12_best_140 rfl ⟨by omega, by omega⟩ (fun h140 => ?_) (fun h140 => (by exfalso; omega))
            refine z_il2 eX12_best_215 ?_
            refine z_iconst eX12_best_216 ?_
            refine z_il3 eX12_best_217 ?_
            refine z_ishl eX12_best_218 ?_
            refine z_ior eX12_best_219 ?_
            refine z_is2 eX12_best_220 (Nat.ne_of_beq_eq_false rfl) ?_
            refine z_ii4 eX12_best_221 (Nat.ne_of_beq_eq_false rfl) ?_
            refine z_goto eX12_best_224 (tgt := 86) rfl ?_
            exact ih S _ hI
          · intro k k0 k1 ihk S hI
            have hS1 := hI.1.r1
            have hV := hO.1.1.V (k := k) ⟨k0, by omega⟩
            have hz := zor_256 (s := set) (k := k) hb ⟨k0, by omega⟩
            have t2 := hI.2 (h + 1) (zor set (zshl 1 k)) (by omega) (by omega) hz.1 hz.2
            have t0 := hI.2 h set (by omega) (by omega) hb.1 hb.2
            have b2 := qTab_bd hO.1 (h := h + 1) (by omega) (by omega) (zor set (zshl 1 k))
            have hbr := qBring_bd hO.1 (k := k) (h := h) ⟨k0, by omega⟩ (by omega)
            rw [show k - 1 + 1 = k by omega, qFrom_s k1] at ihk
            refine z_il5 eX12_best_138 ?_
            refine z_if_lt (tgt := 215) eX12_best_140 rfl ⟨by omega, by omega⟩ (fun h140 => (by exfalso; omega)) (fun h140 => ?_)
            refine z_al0 eX12_best_143 hR.ne ?_
            refine z_il5 eX12_best_144 ?_
            refine z_V1 eX12_best_146 vX12_308 rfl rfl (Nat.le_of_ble_eq_true rfl) (Nat.le_of_ble_eq_true rfl) hR.x (m_X12_waits hR ⟨by omega, by omega⟩ (by rw [hS1]; exact ⟨by omega, by omega⟩)) ?_
            try rw [hS1]
            refine z_ifb_eq (tgt := 209) eX12_best_149 rfl (fun h149 => ?_) (fun h149 => ?_)
            · refine z_ii5 eX12_best_209 (Nat.ne_of_beq_eq_false rfl) ?_
              refine z_goto eX12_best_212 (tgt := 138) rfl ?_
              first | (have e2 := h203; have e1 : ¬ zbit set k = 1 := h158; rw [zif_t (show qBestP (τ 1) h set k from ⟨h149, e1, by omega⟩)] at ihk; exact ihk s166 hI2) | (have e2 : ¬ _ := h203; rw [zif_f (fun z => by have := z.2.2; omega)] at ihk; exact ihk s166 hI2) | (have e2 := h158; rw [zif_f (fun z => z.2.1 e2)] at ihk; exact ihk S hI) | (rw [zif_f (fun z => h149 z.1)] at ihk; exact ihk S hI) | fail
            · refine z_il2 eX12_best_152 ?_
              refine z_il5 eX12_best_153 ?_
              refine z_S2 eX12_best_155 vX12_290 rfl rfl (Nat.le_of_ble_eq_true rfl) (Nat.le_of_ble_eq_true rfl) (m_X12_isOf ) ?_
              try rw [hS1]
              refine z_ifb_ne (tgt := 209) eX12_best_158 rfl (fun h158 => ?_) (fun h158 => ?_)
              · refine z_ii5 eX12_best_209 (Nat.ne_of_beq_eq_false rfl) ?_
                refine z_goto eX12_best_212 (tgt := 138) rfl ?_
                first | (have e2 := h203; have e1 : ¬ zbit set k = 1 := h158; rw [zif_t (show qBestP (τ 1) h set k from ⟨h149, e1, by omega⟩)] at ihk; exact ihk s166 hI2) | (have e2 : ¬ _ := h203; rw [zif_f (fun z => by have := z.2.2; omega)] at ihk; exact ihk s166 hI2) | (have e2 := h158; rw [zif_f (fun z => z.2.1 e2)] at ihk; exact ihk S hI) | (rw [zif_f (fun z => h149 z.1)] at ihk; exact ihk S hI) | fail
              · refine z_al0 eX12_best_161 hR.ne ?_
                refine z_il5 eX12_best_162 ?_
                refine z_il4 eX12_best_164 ?_
                refine z_V2x eX12_best_166 vX12_361 rfl rfl (Nat.le_of_ble_eq_true rfl) (Nat.le_of_ble_eq_true rfl) hR.x (m_X12_bringsIn hR hS hI.1.2.2 (by rw [hS1]; exact hO) ⟨by omega, by omega⟩ (by rw [hS1]; exact ⟨by omega, by omega⟩)) (fun s166 hs166 => ?_)
                have hI2 := hI.w hs166
                try rw [hS1]
                refine z_al0 eX12_best_169 hR.ne ?_
                refine z_ra lX12_45 eX12_best_170 rfl hR rfl ?_
                try rw [hS1]
                refine z_sipush eX12_best_173 (by decide) ?_
                refine z_il4 eX12_best_176 ?_
                refine z_iconst eX12_best_178 ?_
                refine z_iadd eX12_best_179 ?_
                refine z_imul eX12_best_180 ?_
                refine z_il2 eX12_best_181 ?_
                refine z_iconst eX12_best_182 ?_
                refine z_il5 eX12_best_183 ?_
                refine z_ishl eX12_best_185 ?_
                refine z_ior eX12_best_186 ?_
                refine z_iadd eX12_best_187 ?_
                refine z_rl eX12_best_188 hR (by decide) rfl rfl ⟨by omega, by omega⟩ ?_
                try rw [hS1]
                first | rw [hs166.r1] | rw [hs166.r7] | rw [hs166.r8] | rw [hs166.r5] | rw [hs166.r9] | rw [hs166.r11] | skip
                rw [t2]
                refine z_iadd eX12_best_189 ?_
                refine z_al0 eX12_best_190 hR.ne ?_
                refine z_ra lX12_45 eX12_best_191 rfl hR rfl ?_
                try rw [hS1]
                refine z_sipush eX12_best_194 (by decide) ?_
                refine z_il4 eX12_best_197 ?_
                refine z_imul eX12_best_199 ?_
                refine z_il2 eX12_best_200 ?_
                refine z_iadd eX12_best_201 ?_
                refine z_rl eX12_best_202 hR (by decide) rfl rfl ⟨by omega, by omega⟩ ?_
                try rw [hS1]
                first | rw [hs166.r1] | rw [hs166.r7] | rw [hs166.r8] | rw [hs166.r5] | rw [hs166.r9] | rw [hs166.r11] | skip
                rw [t0]
                refine z_icmp_ne (tgt := 209) eX12_best_203 rfl ⟨⟨by omega, by omega⟩, ⟨by omega, by omega⟩⟩ (fun h203 => ?_) (fun h203 => ?_)
                · refine z_ii5 eX12_best_209 (Nat.ne_of_beq_eq_false rfl) ?_
                  refine z_goto eX12_best_212 (tgt := 138) rfl ?_
                  first | (have e2 := h203; have e1 : ¬ zbit set k = 1 := h158; rw [zif_t (show qBestP (τ 1) h set k from ⟨h149, e1, by omega⟩)] at ihk; exact ihk s166 hI2) | (have e2 : ¬ _ := h203; rw [zif_f (fun z => by have := z.2.2; omega)] at ihk; exact ihk s166 hI2) | (have e2 := h158; rw [zif_f (fun z => z.2.1 e2)] at ihk; exact ihk S hI) | (rw [zif_f (fun z => h149 z.1)] at ihk; exact ihk S hI) | fail
                · refine z_il5 eX12_best_206 ?_
                  refine z_is3 eX12_best_208 (Nat.ne_of_beq_eq_false rfl) ?_
                  refine z_ii5 eX12_best_209 (Nat.ne_of_beq_eq_false rfl) ?_
                  refine z_goto eX12_best_212 (tgt := 138) rfl ?_
                  first | (have e2 := h203; have e1 : ¬ zbit set k = 1 := h158; rw [zif_t (show qBestP (τ 1) h set k from ⟨h149, e1, by omega⟩)] at ihk; exact ihk s166 hI2) | (have e2 : ¬ _ := h203; rw [zif_f (fun z => by have := z.2.2; omega)] at ihk; exact ihk s166 hI2) | (have e2 := h158; rw [zif_f (fun z => z.2.1 e2)] at ihk; exact ihk S hI) | (rw [zif_f (fun z => h149 z.1)] at ihk; exact ihk S hI) | fail
        refine z_il4 eX12_best_86 ?_
        refine z_il1 eX12_best_88 ?_
        refine z_icmp_gt (tgt := 227) eX12_best_89 rfl ⟨⟨by omega, by omega⟩, ⟨by omega, by omega⟩⟩ (fun h89 => (by exfalso; omega)) (fun h89 => ?_)
        refine z_iconst eX12_best_92 ?_
        refine z_is3 eX12_best_93 (Nat.ne_of_beq_eq_false rfl) ?_
        refine z_al0 eX12_best_94 hR.ne ?_
        refine z_ra lX12_45 eX12_best_95 rfl hR rfl ?_
        try rw [hS1]
        refine z_sipush eX12_best_98 (by decide) ?_
        refine z_il4 eX12_best_101 ?_
        refine z_iconst eX12_best_103 ?_
        refine z_iadd eX12_best_104 ?_
        refine z_imul eX12_best_105 ?_
        refine z_il2 eX12_best_106 ?_
        refine z_iadd eX12_best_107 ?_
        refine z_rl eX12_best_108 hR (by decide) rfl rfl ⟨by omega, by omega⟩ ?_
        try rw [hS1]
        rw [t1]
        refine z_al0 eX12_best_109 hR.ne ?_
        refine z_ra lX12_45 eX12_best_110 rfl hR rfl ?_
        try rw [hS1]
        refine z_sipush eX12_best_113 (by decide) ?_
        refine z_il4 eX12_best_116 ?_
        refine z_imul eX12_best_118 ?_
        refine z_il2 eX12_best_119 ?_
        refine z_iadd eX12_best_120 ?_
        refine z_rl eX12_best_121 hR (by decide) rfl rfl ⟨by omega, by omega⟩ ?_
        try rw [hS1]
        rw [t0]
        refine z_icmp_ne (tgt := 128) eX12_best_122 rfl ⟨⟨by omega, by omega⟩, ⟨by omega, by omega⟩⟩ (fun h122 => ?_) (fun h122 => ?_)
        · refine z_al0 eX12_best_128 hR.ne ?_
          refine z_ra lX12_7 eX12_best_129 rfl hR rfl ?_
          try rw [hS1]
          refine z_iconst eX12_best_132 ?_
          refine z_rl eX12_best_133 hR (by decide) rfl rfl ⟨by omega, by omega⟩ ?_
          try rw [hS1]
          refine z_iconst eX12_best_134 ?_
          refine z_isub eX12_best_135 ?_
          refine z_is5 eX12_best_136 (Nat.ne_of_beq_eq_false rfl) ?_
          have e3 := w138 h122 (τ 1 4 - 1) (by omega) (by omega) S hI; rw [show τ 1 4 - 1 + 1 = τ 1 4 by omega, qFrom_ge (Int.le_refl _)] at e3; exact e3
        · refine z_goto eX12_best_125 (tgt := 221) rfl ?_
          refine z_ii4 eX12_best_221 (Nat.ne_of_beq_eq_false rfl) ?_
          refine z_goto eX12_best_224 (tgt := 86) rfl ?_
          have eh : qBestH (τ 1) h set = (set, -1) := (by unfold qBestH; rw [if_pos h122])
          rw [eh, show τ 1 6 + (i + 1) = h + 1 by omega] at ih
          exact ih S _ hI
    unfold qBest
    by_cases hn1 : n = -1
    · rw [if_pos hn1]
      have hb := qTab_bd hO.1 (h := τ 1 6) (Int.le_refl _) (by omega) 0
      refine z_al0 eX12_best_0 hR.ne ?_
      refine z_il1 eX12_best_1 ?_
      refine z_iconst eX12_best_2 ?_
      refine z_icmp_eq (tgt := 17) eX12_best_3 rfl ⟨⟨by omega, by omega⟩, ⟨by omega, by omega⟩⟩ (fun h3 => ?_) (fun h3 => (by exfalso; omega))
      refine z_iconst eX12_best_17 ?_
      refine z_rp (j := 0) lX12_48 eX12_best_18 rfl hR rfl rfl ?_
      rw [hτ]
      refine z_al0 eX12_best_21 hR.ne ?_
      refine z_rg (j := 0) lX12_48 eX12_best_22 rfl hR rfl rfl ?_
      rw [← hτ, zset_eq, hτ]
      refine z_if_le (tgt := 30) eX12_best_25 rfl ⟨by omega, by omega⟩ (fun h25 => ?_) (fun h25 => (by exfalso; omega))
      refine z_al0 eX12_best_30 hR.ne ?_
      refine z_V0vx eX12_best_31 vX12_364 rfl rfl (Nat.le_of_ble_eq_true rfl) (Nat.le_of_ble_eq_true rfl) hR.x (m_X12_papers hR hS hJτ hO) (fun s31 hs31 => ?_)
      obtain ⟨hs31, ht31⟩ := hs31
      refine z_il1 eX12_best_34 ?_
      refine z_iconst eX12_best_35 ?_
      refine z_icmp_ne (tgt := 60) eX12_best_36 rfl ⟨⟨by omega, by omega⟩, ⟨by omega, by omega⟩⟩ (fun h36 => (by exfalso; omega)) (fun h36 => ?_)
      refine z_al0 eX12_best_39 hR.ne ?_
      refine z_ra lX12_45 eX12_best_40 rfl hR rfl ?_
      refine z_sipush eX12_best_43 (by decide) ?_
      refine z_al0 eX12_best_46 hR.ne ?_
      refine z_ra lX12_7 eX12_best_47 rfl hR rfl ?_
      refine z_bipush eX12_best_50 (by decide) ?_
      refine z_rl eX12_best_52 hR (by decide) rfl rfl ⟨by omega, by omega⟩ ?_
      first | rw [hs31.r1] | rw [hs31.r7] | rw [hs31.r8] | rw [hs31.r5] | rw [hs31.r9] | rw [hs31.r11] | skip
      refine z_imul eX12_best_53 ?_
      refine z_rl eX12_best_54 hR (by decide) rfl rfl ⟨by omega, by omega⟩ ?_
      first | rw [hs31.r1] | rw [hs31.r7] | rw [hs31.r8] | rw [hs31.r5] | rw [hs31.r9] | rw [hs31.r11] | skip
      have e5 := ht31 (τ 1 6) 0 (Int.le_refl _) (by omega) (by decide) (by decide)
      rw [Int.add_zero] at e5
      rw [e5]
      change zW _ _ _ _ _ _ (zI (qTab (τ 1) (τ 1 6) 0) :: _) _ _ _ _
      refine z_sipush eX12_best_55 (by decide) ?_
      refine z_idiv eX12_best_58 ⟨by omega, by omega, by omega, by omega⟩ ?_
      refine z_ireturn eX12_best_59 rfl ?_
      exact zXe hs31 rfl
    · rw [if_neg hn1]
      have hn0 : 0 ≤ n ∧ n < 12 := by omega
      refine z_al0 eX12_best_0 hR.ne ?_
      refine z_il1 eX12_best_1 ?_
      refine z_iconst eX12_best_2 ?_
      refine z_icmp_eq (tgt := 17) eX12_best_3 rfl ⟨⟨by omega, by omega⟩, ⟨by omega, by omega⟩⟩ (fun h3 => (by exfalso; omega)) (fun h3 => ?_)
      refine z_il1 eX12_best_6 ?_
      refine z_S1 eX12_best_7 vX12_332 rfl rfl (Nat.le_of_ble_eq_true rfl) (Nat.le_of_ble_eq_true rfl) (m_X12_isHour ⟨by omega, by omega⟩) ?_
      refine z_ifb_ne (tgt := 17) eX12_best_10 rfl (fun h10 => ?_) (fun h10 => (by exfalso; omega))
      refine z_iconst eX12_best_17 ?_
      refine z_rp (j := 0) lX12_48 eX12_best_18 rfl hR rfl rfl ?_
      rw [hτ]
      refine z_al0 eX12_best_21 hR.ne ?_
      refine z_rg (j := 0) lX12_48 eX12_best_22 rfl hR rfl rfl ?_
      rw [← hτ, zset_eq, hτ]
      refine z_if_le (tgt := 30) eX12_best_25 rfl ⟨by omega, by omega⟩ (fun h25 => ?_) (fun h25 => (by exfalso; omega))
      refine z_al0 eX12_best_30 hR.ne ?_
      refine z_V0vx eX12_best_31 vX12_364 rfl rfl (Nat.le_of_ble_eq_true rfl) (Nat.le_of_ble_eq_true rfl) hR.x (m_X12_papers hR hS hJτ hO) (fun s31 hs31 => ?_)
      obtain ⟨hs31, ht31⟩ := hs31
      refine z_il1 eX12_best_34 ?_
      refine z_iconst eX12_best_35 ?_
      refine z_icmp_ne (tgt := 60) eX12_best_36 rfl ⟨⟨by omega, by omega⟩, ⟨by omega, by omega⟩⟩ (fun h36 => ?_) (fun h36 => (by exfalso; omega))
      refine z_il1 eX12_best_60 ?_
      refine z_al0 eX12_best_61 hR.ne ?_
      refine z_ra lX12_7 eX12_best_62 rfl hR rfl ?_
      refine z_bipush eX12_best_65 (by decide) ?_
      refine z_rl eX12_best_67 hR (by decide) rfl rfl ⟨by omega, by omega⟩ ?_
      first | rw [hs31.r1] | rw [hs31.r7] | rw [hs31.r8] | rw [hs31.r5] | rw [hs31.r9] | rw [hs31.r11] | skip
      refine z_icmp_ge (tgt := 73) eX12_best_68 rfl ⟨⟨by omega, by omega⟩, ⟨by omega, by omega⟩⟩ (fun h68 => ?_) (fun h68 => ?_)
      · refine z_iconst eX12_best_73 ?_
        refine z_is2 eX12_best_74 (Nat.ne_of_beq_eq_false rfl) ?_
        refine z_iconst eX12_best_75 ?_
        refine z_is3 eX12_best_76 (Nat.ne_of_beq_eq_false rfl) ?_
        refine z_al0 eX12_best_77 hR.ne ?_
        refine z_ra lX12_7 eX12_best_78 rfl hR rfl ?_
        refine z_bipush eX12_best_81 (by decide) ?_
        refine z_rl eX12_best_83 hR (by decide) rfl rfl ⟨by omega, by omega⟩ ?_
        first | rw [hs31.r1] | rw [hs31.r7] | rw [hs31.r8] | rw [hs31.r5] | rw [hs31.r9] | rw [hs31.r11] | skip
        refine z_is4 eX12_best_84 (Nat.ne_of_beq_eq_false rfl) ?_
        rw [if_neg (by omega)]; have e6 := w86 hn0 0 (by decide) (by omega) s31 zU ⟨hs31, ht31⟩; rw [Int.add_zero] at e6; exact e6
      · refine z_iconst eX12_best_71 ?_
        refine z_ireturn eX12_best_72 rfl ?_
        rw [if_pos (by omega)]; exact zXe hs31 rfl
  · rw [if_neg hok, if_neg hok]
    refine z_al0 eX12_best_0 hR.ne ?_
    refine z_il1 eX12_best_1 ?_
    refine z_iconst eX12_best_2 ?_
    refine z_icmp_eq (tgt := 17) eX12_best_3 rfl ⟨⟨by omega, by omega⟩, ⟨by omega, by omega⟩⟩ (fun h3 => (by exfalso; omega)) (fun h3 => ?_)
    refine z_il1 eX12_best_6 ?_
    refine z_S1 eX12_best_7 vX12_332 rfl rfl (Nat.le_of_ble_eq_true rfl) (Nat.le_of_ble_eq_true rfl) (m_X12_isHour ⟨by omega, by omega⟩) ?_
    refine z_ifb_ne (tgt := 17) eX12_best_10 rfl (fun h10 => (by exfalso; omega)) (fun h10 => ?_)
    refine z_iconst eX12_best_13 ?_
    refine z_goto eX12_best_14 (tgt := 18) rfl ?_
    refine z_rp (j := 0) lX12_48 eX12_best_18 rfl hR rfl rfl ?_
    refine z_al0 eX12_best_21 hR.ne ?_
    refine z_rg (j := 0) lX12_48 eX12_best_22 rfl hR rfl rfl ?_
    rw [zset_eq]
    refine z_if_le (tgt := 30) eX12_best_25 rfl ⟨by omega, by omega⟩ (fun h25 => (by exfalso; omega)) (fun h25 => ?_)
    refine z_iconst eX12_best_28 ?_
    refine z_ireturn eX12_best_29 rfl ?_
    exact zXe (zScx.refl (hJ1 _)) rfl
