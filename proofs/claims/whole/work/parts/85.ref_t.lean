/-! Posts, asked. -/
def qPoP (M : Int → Int) (p set k : Int) : Prop := ¬ zbit set k = 1 ∧ ¬ qPoT M (p + 1) (zor set (zshl 1 k)) = -1 ∧ qPoT M (p + 1) (zor set (zshl 1 k)) + M (38 + k) * M (46 + 4 * p + 1) = qPoT M p set
noncomputable def qPoH (M : Int → Int) (p set : Int) : Int × Int := (zor set (zshl 1 (qFrom (qPoP M p set) 0 8)), qFrom (qPoP M p set) 0 8)
noncomputable def qPoN (M : Int → Int) (n : Int) : Int × Int := zfold (fun p (r : Int × Int) => qPoH M p r.1) (0, -1) n
noncomputable def qPosts (M : Int → Int) (one : Int) : Int := if one = -1 then qPoT M 0 0 else (qPoN M (one + 1)).2
theorem qPoFound {M : Int → Int} {p set : Int} (h1 : p < M 3) (hne : ¬ qPoT M p set = -1) : (0 ≤ qFrom (qPoP M p set) 0 8 ∧ qFrom (qPoP M p set) 0 8 < 8) ∧ ¬ qPoT M (p + 1) (zor set (zshl 1 (qFrom (qPoP M p set) 0 8))) = -1 := by
  rw [qPoT_s h1] at hne
  obtain ⟨k, a, b, c, d, e⟩ := qPoF_ex hne
  rw [← qPoT_s h1] at e
  rcases qFrom_sp (p := qPoP M p set) (k := 0) (n := 8) (by decide) with ⟨f, g⟩ | ⟨f, g, h, _⟩
  · exact absurd ⟨c, d, e⟩ (g k a b)
  · exact ⟨⟨f, g⟩, h.2.1⟩
theorem qPoN_ok {M : Int → Int} (hM : zOK M) {n : Int} (hn : 0 ≤ n ∧ n ≤ M 3) : (0 ≤ (qPoN M n).1 ∧ (qPoN M n).1 < 256) ∧ ¬ qPoT M n (qPoN M n).1 = -1 := by
  have h3 := hM.1.m3
  have : n ≤ M 3 → (0 ≤ (qPoN M n).1 ∧ (qPoN M n).1 < 256) ∧ ¬ qPoT M n (qPoN M n).1 = -1 := by
    unfold qPoN
    exact zfold_P (f := fun p (r : Int × Int) => qPoH M p r.1) (P := fun n (r : Int × Int) => n ≤ M 3 → (0 ≤ r.1 ∧ r.1 < 256) ∧ ¬ qPoT M n r.1 = -1) (s := (0, -1)) (fun _ => ⟨⟨by show (0 : Int) ≤ 0; decide, by show (0 : Int) < 256; decide⟩, fun z => by
      have hc : qCnt 0 = 0 := rfl
      have := qPo_ge hM (M 3 - 0).toNat (by omega) 0 (by rw [hc]; omega)
      unfold qPoT at z
      dsimp only at z
      omega⟩) (fun t r ht hr h => by
      have h1 := hr (by omega)
      have h2 := qPoFound (M := M) (p := t) (set := r.1) (by omega) h1.2
      exact ⟨zor_256 h1.1 h2.1, h2.2⟩) n hn.1
  exact this hn.2
theorem m_X12_posts {G : zG} {lay : zLay} {σ C0 : zMem} {nx x : Int} {n : Int} (hR : RefL lay x) (hJ : zJs σ) (hM : zOK (σ 1)) (hn : zin n) : zMM G 3 KX12_posts [zP x, zI n] lay (rC x σ C0) nx (0, 0) (zX' (some (zI (if n = -1 ∨ 0 ≤ n ∧ n < σ 1 3 then qPosts (σ 1) n else 0))) (zScx (zset σ 0 0 (if n = -1 ∨ 0 ≤ n ∧ n < σ 1 3 then 0 else 1))) lay C0 nx x) := by
  refine z_met' (L := [zP x, zI n, zU, zU, zU, zU, zU]) gX12_posts.1 rfl rfl (Nat.le_of_ble_eq_true rfl) rfl ?_
  obtain ⟨n1, n2⟩ := hn
  have hm3 := hM.1.m3
  have hJ1 : ∀ v, zJs (zset σ 0 0 v) := fun v => hJ.set (by decide) (fun _ => Or.inl rfl)
  by_cases hok : n = -1 ∨ 0 ≤ n ∧ n < σ 1 3
  · rw [if_pos hok, if_pos hok]
    obtain ⟨τ, hτ, hτ1, hJτ⟩ : ∃ τ, zset σ 0 0 0 = τ ∧ τ 1 = σ 1 ∧ zJs τ := ⟨_, rfl, zset_001, hJ1 0⟩
    rw [hτ]
    have hO : zOK (τ 1) := by rw [hτ1]; exact hM
    have w54 : (0 ≤ n ∧ n < σ 1 3) → ∀ p : Int, 0 ≤ p → p ≤ n + 1 → ∀ (S : zMem) (y5 y6 : zAV), y5.1 ≠ 1 → zScx τ S → (∀ p set, 0 ≤ p → p ≤ σ 1 3 → 0 ≤ set → set < 256 → S 11 (256 * p + set) = qPoT (σ 1) p set) → zW G KX12_posts 3 (zX' (some (zI (qPoN (σ 1) (n + 1)).2)) (zScx τ) lay C0 nx x) 54 [zP x, zI n, zI (qPoN (σ 1) p).1, zI (qPoN (σ 1) p).2, zI p, y5, y6] [] lay (rC x S C0) nx (0, 0) := by
      intro hnn
      refine z_up (n + 1) ?_ ?_
      · intro S y5 y6 hy hSc hT
        refine z_il4 eX12_posts_54 ?_
        refine z_il1 eX12_posts_56 ?_
        refine z_icmp_gt (tgt := 170) eX12_posts_57 rfl ⟨⟨by omega, by omega⟩, ⟨by omega, by omega⟩⟩ (fun h57 => ?_) (fun h57 => (by exfalso; omega))
        refine z_il3 eX12_posts_170 ?_
        refine z_ireturn eX12_posts_171 rfl ?_
        exact zXe hSc rfl
      · intro p p0 p1 ih S y5 y6 hy hSc hT
        have hS1 : S 1 = σ 1 := by rw [hSc.r1, hτ1]
        have hU := hM.1.U (p := p) ⟨p0, by omega⟩
        have hb := qPoN_ok hM (n := p) ⟨p0, by omega⟩
        have e : qPoN (σ 1) (p + 1) = qPoH (σ 1) p (qPoN (σ 1) p).1 := by unfold qPoN; rw [zfold_s _ _ p0]
        rw [e] at ih
        generalize (qPoN (σ 1) p).1 = set at ih hb ⊢
        have t0 := hT p set p0 (by omega) hb.1.1 hb.1.2
        have b0 := qPoT_bd hM (p := p) ⟨p0, by omega⟩ set
        have w66 : ∀ k : Int, -1 ≤ k → k < 8 → ∀ y6 : zAV, zW G KX12_posts 3 (zX' (some (zI (qPoN (σ 1) (n + 1)).2)) (zScx τ) lay C0 nx x) 66 [zP x, zI n, zI set, zI (qFrom (qPoP (σ 1) p set) (k + 1) 8), zI p, zI k, y6] [] lay (rC x S C0) nx (0, 0) := by
          refine z_down ?_ 8 ?_
          · intro y6
            rw [show (-1 : Int) + 1 = 0 by decide]
            unfold qPoH at ih
            refine z_il5 eX12_posts_66 ?_
            refine z_if_lt (tgt := 158) eX12_posts_68 rfl ⟨by omega, by omega⟩ (fun h68 => ?_) (fun h68 => (by exfalso; omega))
            refine z_il2 eX12_posts_158 ?_
            refine z_iconst eX12_posts_159 ?_
            refine z_il3 eX12_posts_160 ?_
            refine z_ishl eX12_posts_161 ?_
            refine z_ior eX12_posts_162 ?_
            refine z_is2 eX12_posts_163 (Nat.ne_of_beq_eq_false rfl) ?_
            refine z_ii4 eX12_posts_164 (Nat.ne_of_beq_eq_false rfl) ?_
            refine z_goto eX12_posts_167 (tgt := 54) rfl ?_
            exact ih S _ _ (Nat.ne_of_beq_eq_false rfl) hSc hT
          · intro k k0 k1 ihk y6
            have hz := zor_256 (s := set) (k := k) hb.1 ⟨k0, by omega⟩
            have t1 := hT (p + 1) (zor set (zshl 1 k)) (by omega) (by omega) hz.1 hz.2
            have b1 := qPoT_bd hM (p := p + 1) ⟨by omega, by omega⟩ (zor set (zshl 1 k))
            have hm := zmul_bd (hM.1.E (k := k) ⟨k0, k1⟩) hU.2.1
            rw [show k - 1 + 1 = k by omega, qFrom_s k1] at ihk
            refine z_il5 eX12_posts_66 ?_
            refine z_if_lt (tgt := 158) eX12_posts_68 rfl ⟨by omega, by omega⟩ (fun h68 => (by exfalso; omega)) (fun h68 => ?_)
            refine z_il2 eX12_posts_71 ?_
            refine z_il5 eX12_posts_72 ?_
            refine z_S2 eX12_posts_74 vX12_290 rfl rfl (Nat.le_of_ble_eq_true rfl) (Nat.le_of_ble_eq_true rfl) (m_X12_isOf ) ?_
            try rw [hS1]
            refine z_ifb_eq (tgt := 84) eX12_posts_77 rfl (fun h77 => ?_) (fun h77 => ?_)
            · refine z_al0 eX12_posts_84 hR.ne ?_
              refine z_ra lX12_45 eX12_posts_85 rfl hR rfl ?_
              try rw [hS1]
              refine z_sipush eX12_posts_88 (by decide) ?_
              refine z_il4 eX12_posts_91 ?_
              refine z_iconst eX12_posts_93 ?_
              refine z_iadd eX12_posts_94 ?_
              refine z_imul eX12_posts_95 ?_
              refine z_il2 eX12_posts_96 ?_
              refine z_iconst eX12_posts_97 ?_
              refine z_il5 eX12_posts_98 ?_
              refine z_ishl eX12_posts_100 ?_
              refine z_ior eX12_posts_101 ?_
              refine z_iadd eX12_posts_102 ?_
              refine z_rl eX12_posts_103 hR (by decide) rfl rfl ⟨by omega, by omega⟩ ?_
              try rw [hS1]
              first | rw [t1] | skip
              refine z_is6 eX12_posts_104 (Nat.ne_of_beq_eq_false rfl) ?_
              refine z_il6 eX12_posts_106 ?_
              refine z_iconst eX12_posts_108 ?_
              refine z_icmp_eq (tgt := 152) eX12_posts_109 rfl ⟨⟨by omega, by omega⟩, ⟨by omega, by omega⟩⟩ (fun h109 => ?_) (fun h109 => ?_)
              · refine z_ii5 eX12_posts_152 (Nat.ne_of_beq_eq_false rfl) ?_
                refine z_goto eX12_posts_155 (tgt := 66) rfl ?_
                first | (have e2 : zbit set k = 1 := h77; rw [zif_f (fun z => z.1 e2)] at ihk; exact ihk _) | (have e4 := h146; rw [zif_t (show qPoP (σ 1) p set k from ⟨h77, h109, e4⟩)] at ihk; exact ihk _) | (have e4 := h146; rw [zif_f (fun z => e4 z.2.2)] at ihk; exact ihk _) | (have e4 := h109; rw [zif_f (fun z => z.2.1 e4)] at ihk; exact ihk _) | (have e4 := h77; rw [zif_f (fun z => z.1 e4)] at ihk; exact ihk _) | (exfalso; omega) | fail
              · refine z_il6 eX12_posts_112 ?_
                refine z_al0 eX12_posts_114 hR.ne ?_
                refine z_ra lX12_7 eX12_posts_115 rfl hR rfl ?_
                try rw [hS1]
                refine z_bipush eX12_posts_118 (by decide) ?_
                refine z_il5 eX12_posts_120 ?_
                refine z_iadd eX12_posts_122 ?_
                refine z_rl eX12_posts_123 hR (by decide) rfl rfl ⟨by omega, by omega⟩ ?_
                try rw [hS1]
                refine z_al0 eX12_posts_124 hR.ne ?_
                refine z_il4 eX12_posts_125 ?_
                refine z_iconst eX12_posts_127 ?_
                refine z_V2 eX12_posts_128 vX12_62 rfl rfl (Nat.le_of_ble_eq_true rfl) (Nat.le_of_ble_eq_true rfl) hR.x (m_X12_of hR ⟨by omega, by omega⟩ (by decide)) ?_
                try rw [hS1]
                refine z_imul eX12_posts_131 ?_
                refine z_iadd eX12_posts_132 ?_
                refine z_al0 eX12_posts_133 hR.ne ?_
                refine z_ra lX12_45 eX12_posts_134 rfl hR rfl ?_
                try rw [hS1]
                refine z_sipush eX12_posts_137 (by decide) ?_
                refine z_il4 eX12_posts_140 ?_
                refine z_imul eX12_posts_142 ?_
                refine z_il2 eX12_posts_143 ?_
                refine z_iadd eX12_posts_144 ?_
                refine z_rl eX12_posts_145 hR (by decide) rfl rfl ⟨by omega, by omega⟩ ?_
                try rw [hS1]
                rw [t0]
                refine z_icmp_ne (tgt := 152) eX12_posts_146 rfl ⟨⟨by omega, by omega⟩, ⟨by omega, by omega⟩⟩ (fun h146 => ?_) (fun h146 => ?_)
                · refine z_ii5 eX12_posts_152 (Nat.ne_of_beq_eq_false rfl) ?_
                  refine z_goto eX12_posts_155 (tgt := 66) rfl ?_
                  first | (have e2 : zbit set k = 1 := h77; rw [zif_f (fun z => z.1 e2)] at ihk; exact ihk _) | (have e4 := h146; rw [zif_t (show qPoP (σ 1) p set k from ⟨h77, h109, e4⟩)] at ihk; exact ihk _) | (have e4 := h146; rw [zif_f (fun z => e4 z.2.2)] at ihk; exact ihk _) | (have e4 := h109; rw [zif_f (fun z => z.2.1 e4)] at ihk; exact ihk _) | (have e4 := h77; rw [zif_f (fun z => z.1 e4)] at ihk; exact ihk _) | (exfalso; omega) | fail
                · refine z_il5 eX12_posts_149 ?_
                  refine z_is3 eX12_posts_151 (Nat.ne_of_beq_eq_false rfl) ?_
                  refine z_ii5 eX12_posts_152 (Nat.ne_of_beq_eq_false rfl) ?_
                  refine z_goto eX12_posts_155 (tgt := 66) rfl ?_
                  first | (have e2 : zbit set k = 1 := h77; rw [zif_f (fun z => z.1 e2)] at ihk; exact ihk _) | (have e4 := h146; rw [zif_t (show qPoP (σ 1) p set k from ⟨h77, h109, e4⟩)] at ihk; exact ihk _) | (have e4 := h146; rw [zif_f (fun z => e4 z.2.2)] at ihk; exact ihk _) | (have e4 := h109; rw [zif_f (fun z => z.2.1 e4)] at ihk; exact ihk _) | (have e4 := h77; rw [zif_f (fun z => z.1 e4)] at ihk; exact ihk _) | (exfalso; omega) | fail
            · refine z_iconst eX12_posts_80 ?_
              refine z_goto eX12_posts_81 (tgt := 104) rfl ?_
              first | rw [t1] | skip
              refine z_is6 eX12_posts_104 (Nat.ne_of_beq_eq_false rfl) ?_
              refine z_il6 eX12_posts_106 ?_
              refine z_iconst eX12_posts_108 ?_
              refine z_icmp_eq (tgt := 152) eX12_posts_109 rfl ⟨⟨by omega, by omega⟩, ⟨by omega, by omega⟩⟩ (fun h109 => ?_) (fun h109 => (by exfalso; omega))
              refine z_ii5 eX12_posts_152 (Nat.ne_of_beq_eq_false rfl) ?_
              refine z_goto eX12_posts_155 (tgt := 66) rfl ?_
              first | (have e2 : zbit set k = 1 := h77; rw [zif_f (fun z => z.1 e2)] at ihk; exact ihk _) | (have e4 := h146; rw [zif_t (show qPoP (σ 1) p set k from ⟨h77, h109, e4⟩)] at ihk; exact ihk _) | (have e4 := h146; rw [zif_f (fun z => e4 z.2.2)] at ihk; exact ihk _) | (have e4 := h109; rw [zif_f (fun z => z.2.1 e4)] at ihk; exact ihk _) | (have e4 := h77; rw [zif_f (fun z => z.1 e4)] at ihk; exact ihk _) | (exfalso; omega) | fail
        refine z_il4 eX12_posts_54 ?_
        refine z_il1 eX12_posts_56 ?_
        refine z_icmp_gt (tgt := 170) eX12_posts_57 rfl ⟨⟨by omega, by omega⟩, ⟨by omega, by omega⟩⟩ (fun h57 => (by exfalso; omega)) (fun h57 => ?_)
        refine z_iconst eX12_posts_60 ?_
        refine z_is3 eX12_posts_61 (Nat.ne_of_beq_eq_false rfl) ?_
        refine z_bipush eX12_posts_62 (by decide) ?_
        refine z_is5 eX12_posts_64 (Nat.ne_of_beq_eq_false rfl) ?_
        have e3 := w66 7 (by decide) (by decide) y6; rw [show (7 : Int) + 1 = 8 by decide, qFrom_ge (Int.le_refl _)] at e3; exact e3
    unfold qPosts
    by_cases hn1 : n = -1
    · rw [if_pos hn1]
      refine z_al0 eX12_posts_0 hR.ne ?_
      refine z_il1 eX12_posts_1 ?_
      refine z_iconst eX12_posts_2 ?_
      refine z_icmp_eq (tgt := 18) eX12_posts_3 rfl ⟨⟨by omega, by omega⟩, ⟨by omega, by omega⟩⟩ (fun h3 => ?_) (fun h3 => (by exfalso; omega))
      refine z_iconst eX12_posts_18 ?_
      refine z_rp (j := 0) lX12_48 eX12_posts_19 rfl hR rfl rfl ?_
      rw [hτ]
      refine z_al0 eX12_posts_22 hR.ne ?_
      refine z_rg (j := 0) lX12_48 eX12_posts_23 rfl hR rfl rfl ?_
      rw [← hτ, zset_eq, hτ]
      refine z_if_le (tgt := 31) eX12_posts_26 rfl ⟨by omega, by omega⟩ (fun h26 => ?_) (fun h26 => (by exfalso; omega))
      refine z_al0 eX12_posts_31 hR.ne ?_
      refine z_V0vx eX12_posts_32 vX12_404 rfl rfl (Nat.le_of_ble_eq_true rfl) (Nat.le_of_ble_eq_true rfl) hR.x (m_X12_postsOf hR hJτ hO) (fun s32 hs32 => ?_)
      obtain ⟨hs32, ht32⟩ := hs32
      rw [hτ1] at ht32
      refine z_il1 eX12_posts_35 ?_
      refine z_iconst eX12_posts_36 ?_
      refine z_icmp_ne (tgt := 47) eX12_posts_37 rfl ⟨⟨by omega, by omega⟩, ⟨by omega, by omega⟩⟩ (fun h37 => (by exfalso; omega)) (fun h37 => ?_)
      refine z_al0 eX12_posts_40 hR.ne ?_
      refine z_ra lX12_45 eX12_posts_41 rfl hR rfl ?_
      refine z_iconst eX12_posts_44 ?_
      refine z_rl eX12_posts_45 hR (by decide) rfl rfl ⟨by omega, by omega⟩ ?_
      first | rw [hs32.r1] | rw [hs32.r7] | rw [hs32.r8] | rw [hs32.r5] | rw [hs32.r9] | rw [hs32.r11] | skip
      have e5 := ht32 0 0 (by decide) (by omega) (by decide) (by decide)
      rw [show (256 : Int) * 0 + 0 = 0 by decide] at e5
      rw [e5]
      refine z_ireturn eX12_posts_46 rfl ?_
      exact zXe hs32 rfl
    · rw [if_neg hn1]
      refine z_al0 eX12_posts_0 hR.ne ?_
      refine z_il1 eX12_posts_1 ?_
      refine z_iconst eX12_posts_2 ?_
      refine z_icmp_eq (tgt := 18) eX12_posts_3 rfl ⟨⟨by omega, by omega⟩, ⟨by omega, by omega⟩⟩ (fun h3 => (by exfalso; omega)) (fun h3 => ?_)
      refine z_al0 eX12_posts_6 hR.ne ?_
      refine z_il1 eX12_posts_7 ?_
      refine z_V1 eX12_posts_8 vX12_317 rfl rfl (Nat.le_of_ble_eq_true rfl) (Nat.le_of_ble_eq_true rfl) hR.x (m_X12_isMember hR ⟨by omega, by omega⟩ hm3) ?_
      refine z_ifb_ne (tgt := 18) eX12_posts_11 rfl (fun h11 => ?_) (fun h11 => (by exfalso; omega))
      refine z_iconst eX12_posts_18 ?_
      refine z_rp (j := 0) lX12_48 eX12_posts_19 rfl hR rfl rfl ?_
      rw [hτ]
      refine z_al0 eX12_posts_22 hR.ne ?_
      refine z_rg (j := 0) lX12_48 eX12_posts_23 rfl hR rfl rfl ?_
      rw [← hτ, zset_eq, hτ]
      refine z_if_le (tgt := 31) eX12_posts_26 rfl ⟨by omega, by omega⟩ (fun h26 => ?_) (fun h26 => (by exfalso; omega))
      refine z_al0 eX12_posts_31 hR.ne ?_
      refine z_V0vx eX12_posts_32 vX12_404 rfl rfl (Nat.le_of_ble_eq_true rfl) (Nat.le_of_ble_eq_true rfl) hR.x (m_X12_postsOf hR hJτ hO) (fun s32 hs32 => ?_)
      obtain ⟨hs32, ht32⟩ := hs32
      rw [hτ1] at ht32
      refine z_il1 eX12_posts_35 ?_
      refine z_iconst eX12_posts_36 ?_
      refine z_icmp_ne (tgt := 47) eX12_posts_37 rfl ⟨⟨by omega, by omega⟩, ⟨by omega, by omega⟩⟩ (fun h37 => ?_) (fun h37 => (by exfalso; omega))
      refine z_iconst eX12_posts_47 ?_
      refine z_is2 eX12_posts_48 (Nat.ne_of_beq_eq_false rfl) ?_
      refine z_iconst eX12_posts_49 ?_
      refine z_is3 eX12_posts_50 (Nat.ne_of_beq_eq_false rfl) ?_
      refine z_iconst eX12_posts_51 ?_
      refine z_is4 eX12_posts_52 (Nat.ne_of_beq_eq_false rfl) ?_
      exact w54 (by omega) 0 (by decide) (by omega) s32 _ _ (Nat.ne_of_beq_eq_false rfl) hs32 ht32
  · rw [if_neg hok, if_neg hok]
    refine z_al0 eX12_posts_0 hR.ne ?_
    refine z_il1 eX12_posts_1 ?_
    refine z_iconst eX12_posts_2 ?_
    refine z_icmp_eq (tgt := 18) eX12_posts_3 rfl ⟨⟨by omega, by omega⟩, ⟨by omega, by omega⟩⟩ (fun h3 => (by exfalso; omega)) (fun h3 => ?_)
    refine z_al0 eX12_posts_6 hR.ne ?_
    refine z_il1 eX12_posts_7 ?_
    refine z_V1 eX12_posts_8 vX12_317 rfl rfl (Nat.le_of_ble_eq_true rfl) (Nat.le_of_ble_eq_true rfl) hR.x (m_X12_isMember hR ⟨by omega, by omega⟩ hm3) ?_
    refine z_ifb_ne (tgt := 18) eX12_posts_11 rfl (fun h11 => (by exfalso; omega)) (fun h11 => ?_)
    refine z_iconst eX12_posts_14 ?_
    refine z_goto eX12_posts_15 (tgt := 19) rfl ?_
    refine z_rp (j := 0) lX12_48 eX12_posts_19 rfl hR rfl rfl ?_
    refine z_al0 eX12_posts_22 hR.ne ?_
    refine z_rg (j := 0) lX12_48 eX12_posts_23 rfl hR rfl rfl ?_
    rw [zset_eq]
    refine z_if_le (tgt := 31) eX12_posts_26 rfl ⟨by omega, by omega⟩ (fun h26 => (by exfalso; omega)) (fun h26 => ?_)
    refine z_iconst eX12_posts_29 ?_
    refine z_ireturn eX12_posts_30 rfl ?_
    exact zXe (zScx.refl (hJ1 _)) rfl
