/-! The chances' walk. -/
/-- s is σ but for scratch, the chances among it -/
def zScw (σ s : zMem) : Prop := (∀ j, zNs j → s 0 j = σ 0 j) ∧ (∀ o, o ≠ 0 → (o ≠ 6 ∧ o ≠ 7 ∧ o ≠ 8) → s o = σ o) ∧ zJs s
theorem zScr.w {σ s : zMem} (h : zScr σ s) : zScw σ s := ⟨h.1, fun o h1 h5 => h.2.1 o h1 h5.1, h.2.2⟩
theorem zScw.refl {σ : zMem} (h : zJs σ) : zScw σ σ := ⟨fun _ _ => rfl, fun _ _ _ => rfl, h⟩
theorem zScw.trans {σ s t : zMem} (h : zScw σ s) (h2 : zScw s t) : zScw σ t := ⟨fun j hj => (h2.1 j hj).trans (h.1 j hj), fun o h0 h6 => (h2.2.1 o h0 h6).trans (h.2.1 o h0 h6), h2.2.2⟩
theorem zScw.r1 {σ s : zMem} (h : zScw σ s) : s 1 = σ 1 := h.2.1 1 (by decide) (by decide)
theorem zScw.r3 {σ s : zMem} (h : zScw σ s) : s 3 = σ 3 := h.2.1 3 (by decide) (by decide)
theorem zScw.r5 {σ s : zMem} (h : zScw σ s) : s 5 = σ 5 := h.2.1 5 (by decide) (by decide)
theorem zScw.r9 {σ s : zMem} (h : zScw σ s) : s 9 = σ 9 := h.2.1 9 (by decide) (by decide)
theorem zScw.r11 {σ s : zMem} (h : zScw σ s) : s 11 = σ 11 := h.2.1 11 (by decide) (by decide)
theorem zScw.n0 {σ s : zMem} (h : zScw σ s) : s 0 0 = σ 0 0 := h.1 0 (by unfold zNs; omega)
theorem zScw.n6 {σ s : zMem} (h : zScw σ s) : s 0 6 = σ 0 6 := h.1 6 (by unfold zNs; omega)
theorem zScw.n8 {σ s : zMem} (h : zScw σ s) : s 0 8 = σ 0 8 := h.1 8 (by unfold zNs; omega)
theorem zScw.n12 {σ s : zMem} (h : zScw σ s) : s 0 12 = σ 0 12 := h.1 12 (by unfold zNs; omega)
theorem zScw.n25 {σ s : zMem} (h : zScw σ s) : s 0 25 = σ 0 25 := h.1 25 (by unfold zNs; omega)
theorem zScw.set {σ s : zMem} (h : zScw σ s) {o j v : Int} (ho : o ≠ 6) (hj : o = 0 → zNs j) : zScw (zset σ o j v) (zset s o j v) := by
  refine ⟨fun i hi => ?_, fun p h0 h6 => ?_, h.2.2.set ho hj⟩
  · rw [zset_at, zset_at, h.1 i hi]
  · funext i; rw [zset_at, zset_at, h.2.1 p h0 h6]
theorem zScw.row {σ s : zMem} (h : zScw σ s) {o : Int} {A : Int → Int} (ho : o = 7 ∨ o = 8) : zScw σ (zRow s o A) := by
  refine ⟨fun i hi => ?_, fun p h0 h6 => ?_, ?_⟩
  · rw [zRow_o (by omega), h.1 i hi]
  · rw [zRow_o (by omega), h.2.1 p h0 h6]
  · unfold zJs
    rw [zRow_o (by omega), zRow_o (by omega)]
    exact h.2.2
theorem zput_lt {K N : Int → Int} {n : Int} (h : ∀ t, 0 ≤ t → t < n → K t = N t) : ∀ t, 0 ≤ t → t < n + 1 → zput K n (N n) t = N t := by
  intro t t0 t1
  unfold zput
  by_cases e : t = n
  · rw [if_pos e, e]
  · rw [if_neg e]; exact h t t0 (by omega)
theorem zR81 {σ : zMem} {A : Int → Int} : zRow σ 8 A 1 = σ 1 := zRow_o (by decide)
theorem zR87 {σ : zMem} {A : Int → Int} : zRow σ 8 A 7 = σ 7 := zRow_o (by decide)
theorem zR71 {σ : zMem} {A : Int → Int} : zRow σ 7 A 1 = σ 1 := zRow_o (by decide)
theorem zR78 {σ : zMem} {A : Int → Int} : zRow σ 7 A 8 = σ 8 := zRow_o (by decide)
theorem zR7s {σ : zMem} {j v : Int} : zset σ 7 j v = zRow σ 7 (zput (σ 7) j v) := by
  have := zRow_put (σ := σ) (o := 7) (A := σ 7) (j := j) (v := v)
  rwa [zRow_self] at this
theorem qGoC_c {M c c' : Int → Int} (h : ∀ t, 0 ≤ t → t < 5 → c t = c' t) (t : Int) : qGoC M c t = qGoC M c' t := by
  have hs : ∀ s t, 0 ≤ s → s < 5 → qShare M c s t = qShare M c' s t := fun s t s0 s1 => by unfold qShare; rw [h s s0 s1]
  unfold qGoC
  refine zsum_congr (fun s s0 s1 => ?_)
  unfold qGoT qOver
  rw [hs s t s0 s1, h s s0 s1, zsum_congr (f := fun t => qShare M c s t) (g := fun t => qShare M c' s t) (fun t _ _ => hs s t s0 s1)]
theorem m_X12_chancesGo {G : zG} {lay : zLay} {σ C0 : zMem} {nx x : Int} (hR : RefL lay x) (hJ : zJs σ) (hM : zOK (σ 1)) (hc : zCh (σ 7)) : zMM G 3 KX12_chancesGo [zP x] lay (rC x σ C0) nx (0, 0) (zX' none (fun q => zScw σ q ∧ ∀ t, 0 ≤ t → t < 5 → q 7 t = qGoC (σ 1) (σ 7) t) lay C0 nx x) := by
  refine z_met' (L := [zP x, zU, zU, zU, zU, zU]) gX12_chancesGo.1 rfl rfl (Nat.le_of_ble_eq_true rfl) rfl ?_
  generalize hQ : zX' _ _ lay C0 nx x = Q
  have w127 : ∀ N : Int → Int, (∀ t, 0 ≤ t → t < 5 → N t = qGoC (σ 1) (σ 7) t) → ∀ n : Int, 0 ≤ n → n ≤ 5 → ∀ (K : Int → Int) (y2 y3 y4 y5 : zAV), (∀ t, 0 ≤ t → t < n → K t = N t) → zW G KX12_chancesGo 3 Q 127 [zP x, zI n, y2, y3, y4, y5] [] lay (rC x (zRow (zRow σ 8 N) 7 K) C0) nx (0, 0) := by
    intro N hN
    subst hQ
    refine z_up 5 ?_ ?_
    · intro K y2 y3 y4 y5 hK
      refine z_il1 eX12_chancesGo_127 ?_
      refine z_iconst eX12_chancesGo_128 ?_
      refine z_icmp_ge (tgt := 150) eX12_chancesGo_129 rfl ⟨⟨by omega, by omega⟩, ⟨by omega, by omega⟩⟩ (fun h129 => ?_) (fun h129 => (by exfalso; omega))
      refine z_return eX12_chancesGo_150 rfl ?_
      exact zXv ⟨((zScw.refl hJ).row (by decide)).row (by decide), fun t t0 t1 => by rw [zRow_e, hK t t0 t1, hN t t0 t1]⟩
    · intro n h0 h1 ih K y2 y3 y4 y5 hK
      refine z_il1 eX12_chancesGo_127 ?_
      refine z_iconst eX12_chancesGo_128 ?_
      refine z_icmp_ge (tgt := 150) eX12_chancesGo_129 rfl ⟨⟨by omega, by omega⟩, ⟨by omega, by omega⟩⟩ (fun h129 => (by exfalso; omega)) (fun h129 => ?_)
      refine z_al0 eX12_chancesGo_132 hR.ne ?_
      refine z_ra lX12_32 eX12_chancesGo_133 rfl hR rfl ?_
      try rw [zR78, zRow_e]
      refine z_il1 eX12_chancesGo_136 ?_
      refine z_al0 eX12_chancesGo_137 hR.ne ?_
      refine z_ra lX12_35 eX12_chancesGo_138 rfl hR rfl ?_
      try rw [zR78, zRow_e]
      refine z_il1 eX12_chancesGo_141 ?_
      refine z_rl eX12_chancesGo_142 hR (by decide) rfl rfl ⟨by omega, by omega⟩ ?_
      try rw [zR78, zRow_e]
      refine z_rs eX12_chancesGo_143 hR (by decide) rfl rfl ⟨by omega, by omega⟩ ?_
      try rw [zRow_put]
      refine z_ii1 eX12_chancesGo_144 (Nat.ne_of_beq_eq_false rfl) ?_
      refine z_goto eX12_chancesGo_147 (tgt := 127) rfl ?_
      exact ih _ y2 y3 y4 y5 (zput_lt hK)
  have w22 : ∀ s : Int, 0 ≤ s → s ≤ 5 → ∀ (N : Int → Int) (y2 y3 y4 y5 : zAV), y2.1 ≠ 1 → y3.1 ≠ 1 → y4.1 ≠ 1 → (∀ t, 0 ≤ t → t < 5 → N t = zsum (qGoT (σ 1) (σ 7) t) s) → zW G KX12_chancesGo 3 Q 22 [zP x, zI s, y2, y3, y4, y5] [] lay (rC x (zRow σ 8 N) C0) nx (0, 0) := by
    refine z_up 5 ?_ ?_
    · intro N y2 y3 y4 y5 _ _ _ hN
      have h := w127 N hN 0 (by decide) (by decide) (σ 7) y2 y3 y4 y5 (fun t t0 t1 => by omega)
      rw [show zRow (zRow σ 8 N) 7 (σ 7) = zRow σ 8 N by have := zRow_self (σ := zRow σ 8 N) (o := 7); rwa [zR87] at this] at h
      refine z_il1 eX12_chancesGo_22 ?_
      refine z_iconst eX12_chancesGo_23 ?_
      refine z_icmp_ge (tgt := 125) eX12_chancesGo_24 rfl ⟨⟨by omega, by omega⟩, ⟨by omega, by omega⟩⟩ (fun h24 => ?_) (fun h24 => (by exfalso; omega))
      refine z_iconst eX12_chancesGo_125 ?_
      refine z_is1 eX12_chancesGo_126 (Nat.ne_of_beq_eq_false rfl) ?_
      exact h
    · intro s s0 s1 ih N y2 y3 y4 y5 hy2 hy3 hy4 hN
      have hz := hM.2 s s0 (by omega)
      have hz2 := zsum_bnd (f := fun t => σ 1 (13 + 5 * s + t)) (c := 9) (n := 5) (by decide) (fun t t0 t1 => hM.1.W ⟨s0, by omega⟩ ⟨t0, t1⟩)
      have hcs := hc.bd s0 s1
      have hin : ∀ t : Int, 0 ≤ t → t ≤ 5 → ∀ (K : Int → Int) (y5 : zAV), (∀ j, 0 ≤ j → j < 5 → K j = N j + (if j < t then qShare (σ 1) (σ 7) s j else 0)) → zW G KX12_chancesGo 3 Q 39 [zP x, zI s, zI (σ 7 s - zsum (fun t => qShare (σ 1) (σ 7) s t) t), zI (qTop (σ 1) s t), zI t, y5] [] lay (rC x (zRow σ 8 K) C0) nx (0, 0) := by
        refine z_up 5 ?_ ?_
        · intro K y5 hK
          have ht := qTop_bd (σ 1) s (n := 5) (by decide) (by decide)
          refine z_il4 eX12_chancesGo_39 ?_
          refine z_iconst eX12_chancesGo_41 ?_
          refine z_icmp_ge (tgt := 109) eX12_chancesGo_42 rfl ⟨⟨by omega, by omega⟩, ⟨by omega, by omega⟩⟩ (fun h42 => ?_) (fun h42 => (by exfalso; omega))
          refine z_al0 eX12_chancesGo_109 hR.ne ?_
          refine z_ra lX12_35 eX12_chancesGo_110 rfl hR rfl ?_
          try rw [zRow_e]
          refine z_il3 eX12_chancesGo_113 ?_
          refine z_dup2 eX12_chancesGo_114 (Nat.ne_of_beq_eq_false rfl) (Nat.ne_of_beq_eq_false rfl) ?_
          refine z_rl eX12_chancesGo_115 hR (by decide) rfl rfl ⟨by omega, by omega⟩ ?_
          try rw [zRow_e]
          refine z_il2 eX12_chancesGo_116 ?_
          refine z_iadd eX12_chancesGo_117 ?_
          refine z_rs eX12_chancesGo_118 hR (by decide) rfl rfl ⟨by omega, by omega⟩ ?_
          try rw [zRow_put]
          refine z_ii1 eX12_chancesGo_119 (Nat.ne_of_beq_eq_false rfl) ?_
          refine z_goto eX12_chancesGo_122 (tgt := 22) rfl ?_
          refine ih _ _ _ _ _ (Nat.ne_of_beq_eq_false rfl) (Nat.ne_of_beq_eq_false rfl) (Nat.ne_of_beq_eq_false rfl) (fun t t0 t1 => ?_)
          rw [zsum_s _ s0, ← hN t t0 t1]
          unfold zput qGoT
          by_cases e : t = qTop (σ 1) s 5
          · rw [if_pos e, if_pos e, ← e, hK t t0 t1, if_pos t1]; unfold qOver; omega
          · rw [if_neg e, if_neg e, hK t t0 t1, if_pos t1]; omega
        · intro t t0 t1 ih2 K y5 hK
          have ht := qTop_bd (σ 1) s (n := t) t0 (by omega)
          have hw := hM.1.W (s := s) (t := t) ⟨s0, s1⟩ ⟨t0, t1⟩
          have hw2 := hM.1.W (s := s) (t := qTop (σ 1) s t) ⟨s0, s1⟩ ht
          have hb := (qShare_bd (M := σ 1) (c := σ 7) (s := s) (t := t) hcs hw hz).1
          have hK2 : ∀ j, 0 ≤ j → j < 5 → zput K t (K t + qShare (σ 1) (σ 7) s t) j = N j + (if j < t + 1 then qShare (σ 1) (σ 7) s j else 0) := by
            intro j j0 j1
            unfold zput
            by_cases e : j = t
            · rw [if_pos e, hK t t0 t1, if_neg (by omega), if_pos (by omega), e]; omega
            · rw [if_neg e, hK j j0 j1]
              by_cases e2 : j < t
              · rw [if_pos e2, if_pos (by omega)]
              · rw [if_neg e2, if_neg (by omega)]
          have hov : σ 7 s - zsum (fun t => qShare (σ 1) (σ 7) s t) (t + 1) = σ 7 s - zsum (fun t => qShare (σ 1) (σ 7) s t) t - qShare (σ 1) (σ 7) s t := by rw [zsum_s _ t0]; omega
          have htp : qTop (σ 1) s (t + 1) = if σ 1 (13 + 5 * s + qTop (σ 1) s t) < σ 1 (13 + 5 * s + t) then t else qTop (σ 1) s t := by unfold qTop; rw [zfold_s _ _ t0]
          refine z_il4 eX12_chancesGo_39 ?_
          refine z_iconst eX12_chancesGo_41 ?_
          refine z_icmp_ge (tgt := 109) eX12_chancesGo_42 rfl ⟨⟨by omega, by omega⟩, ⟨by omega, by omega⟩⟩ (fun h42 => (by exfalso; omega)) (fun h42 => ?_)
          refine z_al0 eX12_chancesGo_45 hR.ne ?_
          refine z_ra lX12_32 eX12_chancesGo_46 rfl hR rfl ?_
          first | rw [zR87] | rw [zR81] | rw [zRow_e] | skip
          refine z_il1 eX12_chancesGo_49 ?_
          refine z_rl eX12_chancesGo_50 hR (by decide) rfl rfl ⟨by omega, by omega⟩ ?_
          first | rw [zR87] | rw [zR81] | rw [zRow_e] | skip
          refine z_al0 eX12_chancesGo_51 hR.ne ?_
          refine z_il1 eX12_chancesGo_52 ?_
          refine z_il4 eX12_chancesGo_53 ?_
          refine z_V2 eX12_chancesGo_55 vX12_59 rfl rfl (Nat.le_of_ble_eq_true rfl) (Nat.le_of_ble_eq_true rfl) hR.x (m_X12_weight hR ⟨by omega, by omega⟩ ⟨by omega, by omega⟩) ?_
          first | rw [zR87] | rw [zR81] | rw [zRow_e] | skip
          refine z_imul eX12_chancesGo_58 ?_
          refine z_al0 eX12_chancesGo_59 hR.ne ?_
          refine z_il1 eX12_chancesGo_60 ?_
          refine z_V1 eX12_chancesGo_61 vX12_299 rfl rfl (Nat.le_of_ble_eq_true rfl) (Nat.le_of_ble_eq_true rfl) hR.x (m_X12_weights hR ⟨by omega, by omega⟩) ?_
          first | rw [zR87] | rw [zR81] | rw [zRow_e] | skip
          refine z_idiv eX12_chancesGo_64 ⟨by omega, by omega, by omega, by omega⟩ ?_
          change zW _ _ _ _ _ _ (zI (qShare (σ 1) (σ 7) s t) :: _) _ _ _ _
          refine z_is5 eX12_chancesGo_65 (Nat.ne_of_beq_eq_false rfl) ?_
          refine z_al0 eX12_chancesGo_67 hR.ne ?_
          refine z_ra lX12_35 eX12_chancesGo_68 rfl hR rfl ?_
          first | rw [zR87] | rw [zR81] | rw [zRow_e] | skip
          refine z_il4 eX12_chancesGo_71 ?_
          refine z_dup2 eX12_chancesGo_73 (Nat.ne_of_beq_eq_false rfl) (Nat.ne_of_beq_eq_false rfl) ?_
          refine z_rl eX12_chancesGo_74 hR (by decide) rfl rfl ⟨by omega, by omega⟩ ?_
          first | rw [zR87] | rw [zR81] | rw [zRow_e] | skip
          refine z_il5 eX12_chancesGo_75 ?_
          refine z_iadd eX12_chancesGo_77 ?_
          refine z_rs eX12_chancesGo_78 hR (by decide) rfl rfl ⟨by omega, by omega⟩ ?_
          try rw [zRow_put]
          refine z_il2 eX12_chancesGo_79 ?_
          refine z_il5 eX12_chancesGo_80 ?_
          refine z_isub eX12_chancesGo_82 ?_
          refine z_is2 eX12_chancesGo_83 (Nat.ne_of_beq_eq_false rfl) ?_
          refine z_al0 eX12_chancesGo_84 hR.ne ?_
          refine z_il1 eX12_chancesGo_85 ?_
          refine z_il4 eX12_chancesGo_86 ?_
          refine z_V2 eX12_chancesGo_88 vX12_59 rfl rfl (Nat.le_of_ble_eq_true rfl) (Nat.le_of_ble_eq_true rfl) hR.x (m_X12_weight hR ⟨by omega, by omega⟩ ⟨by omega, by omega⟩) ?_
          first | rw [zR87] | rw [zR81] | rw [zRow_e] | skip
          refine z_al0 eX12_chancesGo_91 hR.ne ?_
          refine z_il1 eX12_chancesGo_92 ?_
          refine z_il3 eX12_chancesGo_93 ?_
          refine z_V2 eX12_chancesGo_94 vX12_59 rfl rfl (Nat.le_of_ble_eq_true rfl) (Nat.le_of_ble_eq_true rfl) hR.x (m_X12_weight hR ⟨by omega, by omega⟩ ⟨by omega, by omega⟩) ?_
          first | rw [zR87] | rw [zR81] | rw [zRow_e] | skip
          refine z_icmp_le (tgt := 103) eX12_chancesGo_97 rfl ⟨⟨by omega, by omega⟩, ⟨by omega, by omega⟩⟩ (fun h97 => ?_) (fun h97 => ?_)
          · refine z_ii4 eX12_chancesGo_103 (Nat.ne_of_beq_eq_false rfl) ?_
            refine z_goto eX12_chancesGo_106 (tgt := 39) rfl ?_
            rw [← hov]
            first | (rw [if_pos (by omega)] at htp; rw [htp] at ih2; exact ih2 _ _ hK2) | (rw [if_neg (by omega)] at htp; rw [htp] at ih2; exact ih2 _ _ hK2) | fail
          · refine z_il4 eX12_chancesGo_100 ?_
            refine z_is3 eX12_chancesGo_102 (Nat.ne_of_beq_eq_false rfl) ?_
            refine z_ii4 eX12_chancesGo_103 (Nat.ne_of_beq_eq_false rfl) ?_
            refine z_goto eX12_chancesGo_106 (tgt := 39) rfl ?_
            rw [← hov]
            first | (rw [if_pos (by omega)] at htp; rw [htp] at ih2; exact ih2 _ _ hK2) | (rw [if_neg (by omega)] at htp; rw [htp] at ih2; exact ih2 _ _ hK2) | fail
      have h0 := hin 0 (by decide) (by decide) N y5 (fun j j0 j1 => by rw [if_neg (by omega)]; omega)
      rw [zsum_0, Int.sub_zero] at h0
      refine z_il1 eX12_chancesGo_22 ?_
      refine z_iconst eX12_chancesGo_23 ?_
      refine z_icmp_ge (tgt := 125) eX12_chancesGo_24 rfl ⟨⟨by omega, by omega⟩, ⟨by omega, by omega⟩⟩ (fun h24 => (by exfalso; omega)) (fun h24 => ?_)
      refine z_al0 eX12_chancesGo_27 hR.ne ?_
      refine z_ra lX12_32 eX12_chancesGo_28 rfl hR rfl ?_
      try rw [zR87]
      refine z_il1 eX12_chancesGo_31 ?_
      refine z_rl eX12_chancesGo_32 hR (by decide) rfl rfl ⟨by omega, by omega⟩ ?_
      try rw [zR87]
      refine z_is2 eX12_chancesGo_33 (Nat.ne_of_beq_eq_false rfl) ?_
      refine z_iconst eX12_chancesGo_34 ?_
      refine z_is3 eX12_chancesGo_35 (Nat.ne_of_beq_eq_false rfl) ?_
      refine z_iconst eX12_chancesGo_36 ?_
      refine z_is4 eX12_chancesGo_37 (Nat.ne_of_beq_eq_false rfl) ?_
      exact h0
  have w2 : ∀ n : Int, 0 ≤ n → n ≤ 5 → ∀ N : Int → Int, (∀ t, 0 ≤ t → t < n → N t = 0) → zW G KX12_chancesGo 3 Q 2 [zP x, zI n, zU, zU, zU, zU] [] lay (rC x (zRow σ 8 N) C0) nx (0, 0) := by
    refine z_up 5 ?_ ?_
    · intro N hN
      refine z_il1 eX12_chancesGo_2 ?_
      refine z_iconst eX12_chancesGo_3 ?_
      refine z_icmp_ge (tgt := 20) eX12_chancesGo_4 rfl ⟨⟨by omega, by omega⟩, ⟨by omega, by omega⟩⟩ (fun h4 => ?_) (fun h4 => (by exfalso; omega))
      refine z_iconst eX12_chancesGo_20 ?_
      refine z_is1 eX12_chancesGo_21 (Nat.ne_of_beq_eq_false rfl) ?_
      exact w22 0 (by decide) (by decide) N _ _ _ _ (Nat.ne_of_beq_eq_false rfl) (Nat.ne_of_beq_eq_false rfl) (Nat.ne_of_beq_eq_false rfl) (fun t t0 t1 => by rw [zsum_0]; exact hN t t0 t1)
    · intro n n0 n1 ih N hN
      refine z_il1 eX12_chancesGo_2 ?_
      refine z_iconst eX12_chancesGo_3 ?_
      refine z_icmp_ge (tgt := 20) eX12_chancesGo_4 rfl ⟨⟨by omega, by omega⟩, ⟨by omega, by omega⟩⟩ (fun h4 => (by exfalso; omega)) (fun h4 => ?_)
      refine z_al0 eX12_chancesGo_7 hR.ne ?_
      refine z_ra lX12_35 eX12_chancesGo_8 rfl hR rfl ?_
      refine z_il1 eX12_chancesGo_11 ?_
      refine z_iconst eX12_chancesGo_12 ?_
      refine z_rs eX12_chancesGo_13 hR (by decide) rfl rfl ⟨by omega, by omega⟩ ?_
      try rw [zRow_put]
      refine z_ii1 eX12_chancesGo_14 (Nat.ne_of_beq_eq_false rfl) ?_
      refine z_goto eX12_chancesGo_17 (tgt := 2) rfl ?_
      exact ih _ (zput_lt (N := fun _ => 0) hN)
  have h0 := w2 0 (by decide) (by decide) (σ 8) (fun t t0 t1 => by omega)
  rw [zRow_self] at h0
  refine z_iconst eX12_chancesGo_0 ?_
  refine z_is1 eX12_chancesGo_1 (Nat.ne_of_beq_eq_false rfl) ?_
  exact h0
