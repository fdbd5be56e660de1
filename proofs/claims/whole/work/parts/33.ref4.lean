/-! Numbers, and the lines of the coast, as the reference reads them. -/
/-- the reference while it reads: it is at a, its fault is f -/
def pS (σ : zMem) (a f : Int) : zMem := zset (zset σ 0 11 a) 0 12 f
theorem pS_at {σ : zMem} {a f o j : Int} : pS σ a f o j = if o = 0 ∧ j = 12 then f else if o = 0 ∧ j = 11 then a else σ o j := rfl
theorem pS_9 {σ : zMem} {a f : Int} : pS σ a f 0 9 = σ 0 9 := by simp [pS_at]
theorem pS_10 {σ : zMem} {a f : Int} : pS σ a f 0 10 = σ 0 10 := by simp [pS_at]
theorem pS_11 {σ : zMem} {a f : Int} : pS σ a f 0 11 = a := by simp [pS_at]
theorem pS_12 {σ : zMem} {a f : Int} : pS σ a f 0 12 = f := by simp [pS_at]
theorem pS_13 {σ : zMem} {a f : Int} : pS σ a f 0 13 = σ 0 13 := by simp [pS_at]
theorem pS_o {σ : zMem} {a f o : Int} (h : o ≠ 0) : pS σ a f o = σ o := by funext j; simp [pS_at, h]
theorem pS_s11 {σ : zMem} {a f a' : Int} : zset (pS σ a f) 0 11 a' = pS σ a' f := by
  funext o j
  simp only [zset_at, pS_at]
  by_cases h : o = 0 ∧ j = 12
  · rw [if_neg (by omega), if_pos h, if_pos h]
  · rw [if_neg h, if_neg h]
    by_cases h' : o = 0 ∧ j = 11
    · rw [if_pos h', if_pos h']
    · rw [if_neg h', if_neg h', if_neg h']
theorem pS_s12 {σ : zMem} {a f f' : Int} : zset (pS σ a f) 0 12 f' = pS σ a f' := zset_zset _ _ _ _ _
theorem pS_self {σ : zMem} : pS σ (σ 0 11) (σ 0 12) = σ := by
  unfold pS
  rw [zset_self]
  exact zset_self σ 0 12
theorem pS_T {σ : zMem} {a f : Int} (h : TxI σ) : TxI (pS σ a f) ∧ rT (pS σ a f) = rT σ := h.of pS_9 pS_10 (pS_o (by decide)) (pS_o (by decide))
theorem qskip_bd {T : Int → Int} {e a : Int} (h : a ≤ e) : a ≤ qscan qbl T e a ∧ qscan qbl T e a ≤ e := ⟨qscan_bd.1, qscan_bd.2 h⟩
theorem qscan_idem {P : Int → Bool} {T : Int → Int} {e : Int} : ∀ (n : Nat) (a : Int), (e - a).toNat = n → qscan P T e (qscan P T e a) = qscan P T e a := by
  intro n
  induction n with
  | zero => intro a h; rw [qscan_ge (k := a) (by omega), qscan_ge (by omega)]
  | succ n ih =>
    intro a h
    by_cases hp : P (T a) = true
    · rw [qscan_t (k := a) (by omega) hp]; exact ih (a + 1) (by omega)
    · rw [qscan_f (k := a) (by omega) hp, qscan_f (by omega) hp]
theorem qskip_idem {T : Int → Int} {e a : Int} : qscan qbl T e (qscan qbl T e a) = qscan qbl T e a := qscan_idem _ a rfl
section ZPS
variable {G : zG} {lay : zLay} {σ C0 : zMem} {nx x a f : Int}
theorem p_X12_skip (hR : RefL lay x) (hT : TxI σ) (ha : 0 ≤ a ∧ a ≤ σ 0 10) : zMM G 2 KX12_skip [zP x] lay (rC x (pS σ a f) C0) nx (0, 0) (zR none lay (rC x (pS σ (qscan qbl (rT σ) (σ 0 10) a) f) C0) nx) := by
  have h := m_X12_skip (G := G) (C0 := C0) (nx := nx) (σ := pS σ a f) hR (pS_T hT).1 (by rw [pS_11, pS_10]; exact ha)
  rw [(pS_T hT).2, pS_11, pS_10, pS_s11] at h
  exact h
theorem p_X12_here (hR : RefL lay x) (hT : TxI σ) (ha : 0 ≤ a ∧ a ≤ σ 0 10) : zMM G 3 KX12_here [zP x] lay (rC x (pS σ a f) C0) nx (0, 0) (zR (some (zI (qscan qbl (rT σ) (σ 0 10) a))) lay (rC x (pS σ (qscan qbl (rT σ) (σ 0 10) a) f) C0) nx) := by
  have h := m_X12_here (G := G) (C0 := C0) (nx := nx) (σ := pS σ a f) hR (pS_T hT).1 (by rw [pS_11, pS_10]; exact ha)
  rw [(pS_T hT).2, pS_11, pS_10, pS_s11] at h
  exact h
theorem p_X12_isSign {c : Int} (hR : RefL lay x) (hT : TxI σ) (ha : 0 ≤ a ∧ a ≤ σ 0 10) (hc : zin c) : zMM G 3 KX12_isSign [zP x, zI c] lay (rC x (pS σ a f) C0) nx (0, 0) (zR (some (zI (zbi (qscan qbl (rT σ) (σ 0 10) a < σ 0 10 ∧ rT σ (qscan qbl (rT σ) (σ 0 10) a) = c)))) lay (rC x (pS σ (qscan qbl (rT σ) (σ 0 10) a) f) C0) nx) := by
  have h := m_X12_isSign (G := G) (C0 := C0) (nx := nx) (σ := pS σ a f) hR (pS_T hT).1 (by rw [pS_11, pS_10]; exact ha) hc
  rw [(pS_T hT).2, pS_11, pS_10, pS_s11] at h
  exact h
theorem p_X12_letter {k : Int} (hR : RefL lay x) (hT : TxI σ) (hk : 0 ≤ k ∧ k < 400) : zMM G 1 KX12_letter [zP x, zI k] lay (rC x (pS σ a f) C0) nx (0, 0) (zR (some (zI (rT σ k))) lay (rC x (pS σ a f) C0) nx) := by
  have h := m_X12_letter (G := G) (C0 := C0) (nx := nx) (σ := pS σ a f) hR (pS_T hT).1 hk
  rw [(pS_T hT).2] at h
  exact h
theorem p_X12_wrong {w : Int} (hR : RefL lay x) (hf : zin f) : zMM G 1 KX12_wrong [zP x, zI w] lay (rC x (pS σ a f) C0) nx (0, 0) (zR none lay (rC x (pS σ a (if f = -1 then w else f)) C0) nx) := by
  have h := m_X12_wrong (G := G) (C0 := C0) (nx := nx) (lay := lay) (σ := pS σ a f) (w := w) hR (by rw [pS_12]; exact hf)
  rw [pS_12, pS_s12] at h
  by_cases e : f = -1
  · rw [if_pos e] at h ⊢; exact h
  · rw [if_neg e] at h ⊢; exact h
theorem p_X12_has {t : Nat} {q : String × Nat × String × List Int} (hR : RefL lay x) (hS : TxS lay C0) (hq : zStr[t]? = some q) (hT : TxI σ) (ha : 0 ≤ a ∧ a ≤ σ 0 10) : zMM G 6 KX12_has [zP x, zP (-10 - (t : Int))] lay (rC x (pS σ a f) C0) nx (0, 0) (zR (some (zI (zbi (qhas (rT σ) (σ 0 10) (qscan qbl (rT σ) (σ 0 10) a) q.2.2.2)))) lay (rC x (pS σ (qscan qbl (rT σ) (σ 0 10) a + q.2.2.2.length * zbi (qhas (rT σ) (σ 0 10) (qscan qbl (rT σ) (σ 0 10) a) q.2.2.2)) f) C0) nx) := by
  have h := m_X12_has (G := G) (nx := nx) (σ := pS σ a f) hR hS hq (pS_T hT).1 (by rw [pS_11, pS_10]; exact ha)
  rw [(pS_T hT).2, pS_11, pS_10, pS_s11] at h
  exact h
end ZPS
/-- at most n figures from a on, v told so far: the number, and the place behind -/
def qfgN (T : Int → Int) (e : Int) : Nat → Int → Int → Int × Int
  | 0, a, v => (v, a)
  | n + 1, a, v => if a < e ∧ 48 ≤ T a ∧ T a ≤ 57 then qfgN T e n (a + 1) (10 * v + T a - 48) else (v, a)
theorem qfgN_no {T : Int → Int} {e a v : Int} {n : Nat} (h : ¬ (a < e ∧ 48 ≤ T a ∧ T a ≤ 57)) : qfgN T e n a v = (v, a) := by
  cases n with
  | zero => rfl
  | succ n => show (if _ then _ else _) = _; rw [if_neg h]
theorem qfgN_yes {T : Int → Int} {e a v : Int} {n : Nat} (h : a < e ∧ 48 ≤ T a ∧ T a ≤ 57) : qfgN T e (n + 1) a v = qfgN T e n (a + 1) (10 * v + T a - 48) := by
  show (if _ then _ else _) = _; rw [if_pos h]
/-- the most that 4 - n figures tell -/
def qB : Nat → Int
  | 0 => 9999
  | 1 => 999
  | 2 => 99
  | 3 => 9
  | _ => 0
theorem qB_s {n : Nat} (h : n < 4) : 10 * qB (n + 1) + 9 ≤ qB n := by
  match n, h with
  | 0, _ => decide
  | 1, _ => decide
  | 2, _ => decide
  | 3, _ => decide
theorem qB_le (n : Nat) : qB n ≤ 9999 := by
  match n with
  | 0 => decide
  | 1 => decide
  | 2 => decide
  | 3 => decide
  | n + 4 => show (0 : Int) ≤ 9999; decide
/-- the figures at a, low to high: the number, the place behind, the fault -/
def qFig (T : Int → Int) (e lo hi a f : Int) : Int × Int × Int :=
  if f = -1 then ((qfgN T e 4 (qscan qbl T e a) 0).1, (qfgN T e 4 (qscan qbl T e a) 0).2, if (qfgN T e 4 (qscan qbl T e a) 0).2 = qscan qbl T e a ∨ 3 < (qfgN T e 4 (qscan qbl T e a) 0).2 - qscan qbl T e a ∨ (qfgN T e 4 (qscan qbl T e a) 0).1 < lo ∨ hi < (qfgN T e 4 (qscan qbl T e a) 0).1 then qscan qbl T e a else -1) else (0, a, f)
theorem zin_m1 : zin (-1) := by decide
theorem p_X12_figures {G : zG} {lay : zLay} {σ C0 : zMem} {nx x a f lo hi : Int} (hR : RefL lay x) (hT : TxI σ) (ha : 0 ≤ a ∧ a ≤ σ 0 10) (hf : zin f) (hlo : zin lo) (hhi : zin hi) : zMM G 4 KX12_figures [zP x, zI lo, zI hi] lay (rC x (pS σ a f) C0) nx (0, 0) (zR (some (zI (qFig (rT σ) (σ 0 10) lo hi a f).1)) lay (rC x (pS σ (qFig (rT σ) (σ 0 10) lo hi a f).2.1 (qFig (rT σ) (σ 0 10) lo hi a f).2.2) C0) nx) := by
  have h10 : σ 0 10 ≤ 400 := hT.2.2.1
  have hbd := qskip_bd (T := rT σ) ha.2
  by_cases hf1 : f = -1
  · subst hf1
    unfold qFig
    rw [if_pos rfl]
    generalize hb : qscan qbl (rT σ) (σ 0 10) a = b at hbd ⊢
    generalize hr : qfgN (rT σ) (σ 0 10) 4 b 0 = r
    have hl : ∀ (n : Nat) (k v : Int), n ≤ 4 → k = b + 4 - n → k ≤ σ 0 10 → 0 ≤ v → v ≤ qB n → qfgN (rT σ) (σ 0 10) n k v = r → zW G KX12_figures 4 (zR (some (zI r.1)) lay (rC x (pS σ r.2 (if r.2 = b ∨ 3 < r.2 - b ∨ r.1 < lo ∨ hi < r.1 then b else -1)) C0) nx) 18 [zP x, zI lo, zI hi, zI b, zI v] [] lay (rC x (pS σ k (-1)) C0) nx (0, 0) := by
      have ht : ∀ (k v : Int), b ≤ k → k ≤ b + 4 → k ≤ σ 0 10 → 0 ≤ v → v ≤ 9999 → (v, k) = r → zW G KX12_figures 4 (zR (some (zI r.1)) lay (rC x (pS σ r.2 (if r.2 = b ∨ 3 < r.2 - b ∨ r.1 < lo ∨ hi < r.1 then b else -1)) C0) nx) 89 [zP x, zI lo, zI hi, zI b, zI v] [] lay (rC x (pS σ k (-1)) C0) nx (0, 0) := by
        intro k v h1 h2 h3 h4 h5 h6
        subst h6
        show zW G KX12_figures 4 (zR (some (zI v)) lay (rC x (pS σ k (if k = b ∨ 3 < k - b ∨ v < lo ∨ hi < v then b else -1)) C0) nx) _ _ _ _ _ _ _
        refine z_al0 eX12_figures_89 hR.ne ?_
        refine z_rg (j := 11) lX12_71 eX12_figures_90 rfl hR rfl rfl ?_
        rw [pS_11]
        refine z_il3 eX12_figures_93 ?_
        refine z_icmp_eq (tgt := 119) eX12_figures_94 rfl ⟨⟨by omega, by omega⟩, ⟨by omega, by omega⟩⟩ (fun h94 => ?_) (fun h94 => ?_)
        · refine z_al0 eX12_figures_119 hR.ne ?_
          refine z_il3 eX12_figures_120 ?_
          refine z_V1v eX12_figures_121 vX12_97 rfl rfl (Nat.le_of_ble_eq_true rfl) (Nat.le_of_ble_eq_true rfl) hR.x (p_X12_wrong hR (by first | assumption | exact zin_m1)) ?_
          try rw [if_pos rfl]
          refine z_il4 eX12_figures_124 ?_
          refine z_ireturn eX12_figures_126 rfl ?_
          first | (rw [if_pos (by omega)]; exact ⟨rfl, rfl, rfl, rfl⟩) | (rw [if_neg (by omega)]; exact ⟨rfl, rfl, rfl, rfl⟩)
        · refine z_al0 eX12_figures_97 hR.ne ?_
          refine z_rg (j := 11) lX12_71 eX12_figures_98 rfl hR rfl rfl ?_
          rw [pS_11]
          refine z_il3 eX12_figures_101 ?_
          refine z_isub eX12_figures_102 ?_
          refine z_iconst eX12_figures_103 ?_
          refine z_icmp_gt (tgt := 119) eX12_figures_104 rfl ⟨⟨by omega, by omega⟩, ⟨by omega, by omega⟩⟩ (fun h104 => ?_) (fun h104 => ?_)
          · refine z_al0 eX12_figures_119 hR.ne ?_
            refine z_il3 eX12_figures_120 ?_
            refine z_V1v eX12_figures_121 vX12_97 rfl rfl (Nat.le_of_ble_eq_true rfl) (Nat.le_of_ble_eq_true rfl) hR.x (p_X12_wrong hR (by first | assumption | exact zin_m1)) ?_
            try rw [if_pos rfl]
            refine z_il4 eX12_figures_124 ?_
            refine z_ireturn eX12_figures_126 rfl ?_
            first | (rw [if_pos (by omega)]; exact ⟨rfl, rfl, rfl, rfl⟩) | (rw [if_neg (by omega)]; exact ⟨rfl, rfl, rfl, rfl⟩)
          · refine z_il4 eX12_figures_107 ?_
            refine z_il1 eX12_figures_109 ?_
            refine z_icmp_lt (tgt := 119) eX12_figures_110 rfl ⟨⟨by omega, by omega⟩, hlo⟩ (fun h110 => ?_) (fun h110 => ?_)
            · refine z_al0 eX12_figures_119 hR.ne ?_
              refine z_il3 eX12_figures_120 ?_
              refine z_V1v eX12_figures_121 vX12_97 rfl rfl (Nat.le_of_ble_eq_true rfl) (Nat.le_of_ble_eq_true rfl) hR.x (p_X12_wrong hR (by first | assumption | exact zin_m1)) ?_
              try rw [if_pos rfl]
              refine z_il4 eX12_figures_124 ?_
              refine z_ireturn eX12_figures_126 rfl ?_
              first | (rw [if_pos (by omega)]; exact ⟨rfl, rfl, rfl, rfl⟩) | (rw [if_neg (by omega)]; exact ⟨rfl, rfl, rfl, rfl⟩)
            · refine z_il4 eX12_figures_113 ?_
              refine z_il2 eX12_figures_115 ?_
              refine z_icmp_le (tgt := 124) eX12_figures_116 rfl ⟨⟨by omega, by omega⟩, hhi⟩ (fun h116 => ?_) (fun h116 => ?_)
              · try rw [if_pos rfl]
                refine z_il4 eX12_figures_124 ?_
                refine z_ireturn eX12_figures_126 rfl ?_
                first | (rw [if_pos (by omega)]; exact ⟨rfl, rfl, rfl, rfl⟩) | (rw [if_neg (by omega)]; exact ⟨rfl, rfl, rfl, rfl⟩)
              · refine z_al0 eX12_figures_119 hR.ne ?_
                refine z_il3 eX12_figures_120 ?_
                refine z_V1v eX12_figures_121 vX12_97 rfl rfl (Nat.le_of_ble_eq_true rfl) (Nat.le_of_ble_eq_true rfl) hR.x (p_X12_wrong hR (by first | assumption | exact zin_m1)) ?_
                try rw [if_pos rfl]
                refine z_il4 eX12_figures_124 ?_
                refine z_ireturn eX12_figures_126 rfl ?_
                first | (rw [if_pos (by omega)]; exact ⟨rfl, rfl, rfl, rfl⟩) | (rw [if_neg (by omega)]; exact ⟨rfl, rfl, rfl, rfl⟩)
      intro n
      induction n with
      | zero =>
        intro k v h0 h1 h2 h3 h4 h5
        have hlet := hT.2.2.2 k (by omega)
        have h40 : v ≤ 9999 := h4
        refine z_al0 eX12_figures_18 hR.ne ?_
        refine z_rg (j := 11) lX12_71 eX12_figures_19 rfl hR rfl rfl ?_
        rw [pS_11]
        refine z_al0 eX12_figures_22 hR.ne ?_
        refine z_rg (j := 10) lX12_74 eX12_figures_23 rfl hR rfl rfl ?_
        rw [pS_10]
        refine z_icmp_ge (tgt := 89) eX12_figures_26 rfl ⟨⟨by omega, by omega⟩, ⟨by omega, by omega⟩⟩ (fun h26 => ?_) (fun h26 => ?_)
        · exact ht k v (by omega) (by omega) (by omega) h3 h40 h5
        · refine z_al0 eX12_figures_29 hR.ne ?_
          refine z_al0 eX12_figures_30 hR.ne ?_
          refine z_rg (j := 11) lX12_71 eX12_figures_31 rfl hR rfl rfl ?_
          rw [pS_11]
          refine z_V1 eX12_figures_34 vX12_77 rfl rfl (Nat.le_of_ble_eq_true rfl) (Nat.le_of_ble_eq_true rfl) hR.x (p_X12_letter hR hT ⟨by omega, by omega⟩) ?_
          refine z_bipush eX12_figures_37 (by decide) ?_
          refine z_bipush eX12_figures_39 (by decide) ?_
          refine z_S3 eX12_figures_41 vX12_51 rfl rfl (Nat.le_of_ble_eq_true rfl) (Nat.le_of_ble_eq_true rfl) (m_X12_isIn (by refine ⟨?_, ?_, ?_⟩ <;> first | omega | decide | assumption)) ?_
          refine z_ifb_eq (tgt := 89) eX12_figures_44 rfl (fun h44 => ?_) (fun h44 => ?_)
          · exact ht k v (by omega) (by omega) (by omega) h3 h40 h5
          · refine z_al0 eX12_figures_47 hR.ne ?_
            refine z_rg (j := 11) lX12_71 eX12_figures_48 rfl hR rfl rfl ?_
            rw [pS_11]
            refine z_il3 eX12_figures_51 ?_
            refine z_isub eX12_figures_52 ?_
            refine z_iconst eX12_figures_53 ?_
            refine z_icmp_gt (tgt := 89) eX12_figures_54 rfl ⟨⟨by omega, by omega⟩, ⟨by omega, by omega⟩⟩ (fun h54 => ?_) (fun h54 => (by exfalso; omega))
            exact ht k v (by omega) (by omega) (by omega) h3 h40 h5
      | succ n ih =>
        intro k v h0 h1 h2 h3 h4 h5
        have hlet := hT.2.2.2 k (by omega)
        have hB := qB_s (n := n) (by omega)
        have hB2 := qB_le (n + 1)
        refine z_al0 eX12_figures_18 hR.ne ?_
        refine z_rg (j := 11) lX12_71 eX12_figures_19 rfl hR rfl rfl ?_
        rw [pS_11]
        refine z_al0 eX12_figures_22 hR.ne ?_
        refine z_rg (j := 10) lX12_74 eX12_figures_23 rfl hR rfl rfl ?_
        rw [pS_10]
        refine z_icmp_ge (tgt := 89) eX12_figures_26 rfl ⟨⟨by omega, by omega⟩, ⟨by omega, by omega⟩⟩ (fun h26 => ?_) (fun h26 => ?_)
        · exact ht k v (by omega) (by omega) (by omega) h3 (by omega) (by rw [← h5]; exact (qfgN_no (by omega)).symm)
        · refine z_al0 eX12_figures_29 hR.ne ?_
          refine z_al0 eX12_figures_30 hR.ne ?_
          refine z_rg (j := 11) lX12_71 eX12_figures_31 rfl hR rfl rfl ?_
          rw [pS_11]
          refine z_V1 eX12_figures_34 vX12_77 rfl rfl (Nat.le_of_ble_eq_true rfl) (Nat.le_of_ble_eq_true rfl) hR.x (p_X12_letter hR hT ⟨by omega, by omega⟩) ?_
          refine z_bipush eX12_figures_37 (by decide) ?_
          refine z_bipush eX12_figures_39 (by decide) ?_
          refine z_S3 eX12_figures_41 vX12_51 rfl rfl (Nat.le_of_ble_eq_true rfl) (Nat.le_of_ble_eq_true rfl) (m_X12_isIn (by refine ⟨?_, ?_, ?_⟩ <;> first | omega | decide | assumption)) ?_
          refine z_ifb_eq (tgt := 89) eX12_figures_44 rfl (fun h44 => ?_) (fun h44 => ?_)
          · exact ht k v (by omega) (by omega) (by omega) h3 (by omega) (by rw [← h5]; exact (qfgN_no (by omega)).symm)
          · refine z_al0 eX12_figures_47 hR.ne ?_
            refine z_rg (j := 11) lX12_71 eX12_figures_48 rfl hR rfl rfl ?_
            rw [pS_11]
            refine z_il3 eX12_figures_51 ?_
            refine z_isub eX12_figures_52 ?_
            refine z_iconst eX12_figures_53 ?_
            refine z_icmp_gt (tgt := 89) eX12_figures_54 rfl ⟨⟨by omega, by omega⟩, ⟨by omega, by omega⟩⟩ (fun h54 => (by exfalso; omega)) (fun h54 => ?_)
            refine z_bipush eX12_figures_57 (by decide) ?_
            refine z_il4 eX12_figures_59 ?_
            refine z_imul eX12_figures_61 ?_
            refine z_al0 eX12_figures_62 hR.ne ?_
            refine z_al0 eX12_figures_63 hR.ne ?_
            refine z_rg (j := 11) lX12_71 eX12_figures_64 rfl hR rfl rfl ?_
            rw [pS_11]
            refine z_V1 eX12_figures_67 vX12_77 rfl rfl (Nat.le_of_ble_eq_true rfl) (Nat.le_of_ble_eq_true rfl) hR.x (p_X12_letter hR hT ⟨by omega, by omega⟩) ?_
            refine z_iadd eX12_figures_70 ?_
            refine z_bipush eX12_figures_71 (by decide) ?_
            refine z_isub eX12_figures_73 ?_
            refine z_is4 eX12_figures_74 (Nat.ne_of_beq_eq_false rfl) ?_
            refine z_al0 eX12_figures_76 hR.ne ?_
            refine z_dup eX12_figures_77 (Nat.ne_of_beq_eq_false rfl) ?_
            refine z_rg (j := 11) lX12_71 eX12_figures_78 rfl hR rfl rfl ?_
            rw [pS_11]
            refine z_iconst eX12_figures_81 ?_
            refine z_iadd eX12_figures_82 ?_
            refine z_rp (j := 11) lX12_71 eX12_figures_83 rfl hR rfl rfl ?_
            rw [pS_s11]
            refine z_goto eX12_figures_86 (tgt := 18) rfl ?_
            exact ih (k + 1) (10 * v + rT σ k - 48) (by omega) (by omega) (by omega) (by omega) (by omega) (by rw [← h5, qfgN_yes ⟨by omega, h44⟩])
    refine z_met' (L := [zP x, zI lo, zI hi, zU, zU]) gX12_figures.1 rfl rfl (Nat.le_of_ble_eq_true rfl) rfl ?_
    refine z_al0 eX12_figures_0 hR.ne ?_
    refine z_rg (j := 12) lX12_25 eX12_figures_1 rfl hR rfl rfl ?_
    rw [pS_12]
    refine z_iconst eX12_figures_4 ?_
    refine z_icmp_eq (tgt := 10) eX12_figures_5 rfl ⟨⟨by omega, by omega⟩, ⟨by omega, by omega⟩⟩ (fun h5 => ?_) (fun h5 => (by exfalso; omega))
    refine z_al0 eX12_figures_10 hR.ne ?_
    refine z_V0 eX12_figures_11 vX12_94 rfl rfl (Nat.le_of_ble_eq_true rfl) (Nat.le_of_ble_eq_true rfl) hR.x (p_X12_here hR hT ⟨by omega, by omega⟩) ?_
    rw [hb]
    refine z_is3 eX12_figures_14 (Nat.ne_of_beq_eq_false rfl) ?_
    refine z_iconst eX12_figures_15 ?_
    refine z_is4 eX12_figures_16 (Nat.ne_of_beq_eq_false rfl) ?_
    exact hl 4 b 0 (by omega) (by omega) (by omega) (by omega) (by decide) hr
  · have e : qFig (rT σ) (σ 0 10) lo hi a f = (0, a, f) := by unfold qFig; rw [if_neg hf1]
    rw [e]
    refine z_met' (L := [zP x, zI lo, zI hi, zU, zU]) gX12_figures.1 rfl rfl (Nat.le_of_ble_eq_true rfl) rfl ?_
    refine z_al0 eX12_figures_0 hR.ne ?_
    refine z_rg (j := 12) lX12_25 eX12_figures_1 rfl hR rfl rfl ?_
    rw [pS_12]
    refine z_iconst eX12_figures_4 ?_
    refine z_icmp_eq (tgt := 10) eX12_figures_5 rfl ⟨hf, by decide⟩ (fun h5 => absurd h5 hf1) (fun h5 => ?_)
    refine z_iconst eX12_figures_8 ?_
    refine z_ireturn eX12_figures_9 rfl ?_
    first | exact ⟨rfl, rfl, rfl, rfl⟩ | exact zRb1 (by omega) | exact zRb0 (by omega) | exact zRe (by omega)
/-- one or the other, as p holds -/
noncomputable def zif {A : Type} (p : Prop) (u v : A) : A := @ite A p (Classical.propDecidable p) u v
theorem zif_t {A : Type} {p : Prop} {u v : A} (h : p) : zif p u v = u := by unfold zif; rw [if_pos h]
theorem zif_f {A : Type} {p : Prop} {u v : A} (h : ¬ p) : zif p u v = v := by unfold zif; rw [if_neg h]
theorem zW_b1 {G : zG} {k : zK} {D pc : Nat} {Q : zQ} {L1 L2 st : List zAV} {lay : zLay} {C : zMem} {nx : Int} {b : Nat × Nat} {p : Prop} (h : p) (w : zW G k D Q pc (L1 ++ zI (zbi p) :: L2) st lay C nx b) : zW G k D Q pc (L1 ++ zI 1 :: L2) st lay C nx b := by rwa [zbi_t h] at w
theorem zW_b0 {G : zG} {k : zK} {D pc : Nat} {Q : zQ} {L1 L2 st : List zAV} {lay : zLay} {C : zMem} {nx : Int} {b : Nat × Nat} {p : Prop} (h : ¬ p) (w : zW G k D Q pc (L1 ++ zI (zbi p) :: L2) st lay C nx b) : zW G k D Q pc (L1 ++ zI 0 :: L2) st lay C nx b := by rwa [zbi_f h] at w
/-- n figures from b on, none above most -/
def qmost (T : Int → Int) (b n most : Int) : Prop := ∀ k, b ≤ k → k < b + n → T k - 48 ≤ most
theorem qmost_0 {T : Int → Int} {b most : Int} : True ↔ qmost T b 0 most := ⟨fun _ k z1 z2 => by omega, fun _ => trivial⟩
theorem qmost_1 {T : Int → Int} {b n most : Int} {g : Prop} (hg : g ↔ qmost T b n most) (h : g) (h2 : ¬ most < T (b + n) - 48) : qmost T b (n + 1) most := by
  intro k z1 z2
  by_cases z3 : k = b + n
  · rw [z3]; omega
  · exact hg.mp h k z1 (by omega)
theorem qmost_n {T : Int → Int} {b n most : Int} (h0 : 0 ≤ n) (h2 : most < T (b + n) - 48) : ¬ qmost T b (n + 1) most := by
  intro z
  have := z (b + n) (by omega) (by omega)
  omega
theorem qmost_f {T : Int → Int} {b n most : Int} {g : Prop} (hg : g ↔ qmost T b n most) (h : ¬ g) : ¬ qmost T b (n + 1) most := fun z => h (hg.mpr (fun k z1 z2 => z k z1 (by omega)))
/-- figures that begin at a, as many as there should be, none above most: where they begin, the place behind, the fault -/
noncomputable def qRow (T : Int → Int) (e many most a f : Int) : Int × Int × Int :=
  if f = -1 then zif (qscan qdig T e (qscan qbl T e a) = qscan qbl T e a + many ∧ qmost T (qscan qbl T e a) many most) (qscan qbl T e a, qscan qbl T e a + many, -1) (qscan qbl T e a, qscan qbl T e a, qscan qbl T e a) else (a, a, f)
theorem p_X12_row {G : zG} {lay : zLay} {σ C0 : zMem} {nx x a f many most : Int} (hR : RefL lay x) (hT : TxI σ) (ha : 0 ≤ a ∧ a ≤ σ 0 10) (hf : zin f) (hlo : zin many) (hhi : zin most) : zMM G 4 KX12_row [zP x, zI many, zI most] lay (rC x (pS σ a f) C0) nx (0, 0) (zR (some (zI (qRow (rT σ) (σ 0 10) many most a f).1)) lay (rC x (pS σ (qRow (rT σ) (σ 0 10) many most a f).2.1 (qRow (rT σ) (σ 0 10) many most a f).2.2) C0) nx) := by
  have h10 : σ 0 10 ≤ 400 := hT.2.2.1
  have hbd := qskip_bd (T := rT σ) ha.2
  by_cases hf1 : f = -1
  · subst hf1
    unfold qRow
    rw [if_pos rfl]
    generalize hb : qscan qbl (rT σ) (σ 0 10) a = b at hbd ⊢
    have hbd2 := qscan_bd (P := qdig) (T := rT σ) (e := σ 0 10) (k := b)
    generalize hr : zif (qscan qdig (rT σ) (σ 0 10) b = b + many ∧ qmost (rT σ) b many most) (b, b + many, (-1 : Int)) (b, b, b) = r
    have hl : ∀ (m : Nat) (n : Int) (g : Prop), (σ 0 10 - (b + n)).toNat = m → 0 ≤ n → b + n ≤ σ 0 10 → qscan qdig (rT σ) (σ 0 10) b = qscan qdig (rT σ) (σ 0 10) (b + n) → (g ↔ qmost (rT σ) b n most) → zW G KX12_row 4 (zR (some (zI r.1)) lay (rC x (pS σ r.2.1 r.2.2) C0) nx) 24 [zP x, zI many, zI most, zI b, zI n, zI (zbi g)] [] lay (rC x (pS σ b (-1)) C0) nx (0, 0) := by
      have ht : ∀ (n : Int) (g : Prop), 0 ≤ n → b + n ≤ σ 0 10 → qscan qdig (rT σ) (σ 0 10) b = b + n → (g ↔ qmost (rT σ) b n most) → zW G KX12_row 4 (zR (some (zI r.1)) lay (rC x (pS σ r.2.1 r.2.2) C0) nx) 86 [zP x, zI many, zI most, zI b, zI n, zI (zbi g)] [] lay (rC x (pS σ b (-1)) C0) nx (0, 0) := by
        intro n g h0 h1 hsc hg
        subst hr
        refine z_il4 eX12_row_86 ?_
        refine z_il1 eX12_row_88 ?_
        refine z_icmp_ne (tgt := 97) eX12_row_89 rfl ⟨⟨by omega, by omega⟩, hlo⟩ (fun h89 => ?_) (fun h89 => ?_)
        · refine z_al0 eX12_row_97 hR.ne ?_
          refine z_il3 eX12_row_98 ?_
          refine z_V1v eX12_row_99 vX12_97 rfl rfl (Nat.le_of_ble_eq_true rfl) (Nat.le_of_ble_eq_true rfl) hR.x (p_X12_wrong hR (by first | assumption | exact zin_m1)) ?_
          rw [if_pos rfl]
          refine z_goto eX12_row_102 (tgt := 113) rfl ?_
          refine z_il3 eX12_row_113 ?_
          refine z_ireturn eX12_row_114 rfl ?_
          first | (rw [zif_t ⟨by omega, by rw [← h89]; exact hg.mp h94⟩, ← h89]; exact ⟨rfl, rfl, rfl, rfl⟩) | (rw [zif_f (fun z => h89 (by omega))]; exact ⟨rfl, rfl, rfl, rfl⟩) | (rw [zif_f (fun z => h94 (hg.mpr (by rw [h89]; exact z.2)))]; exact ⟨rfl, rfl, rfl, rfl⟩)
        · refine z_il5 eX12_row_92 ?_
          refine z_ifb_ne (tgt := 105) eX12_row_94 rfl (fun h94 => ?_) (fun h94 => ?_)
          · refine z_al0 eX12_row_105 hR.ne ?_
            refine z_il3 eX12_row_106 ?_
            refine z_il4 eX12_row_107 ?_
            refine z_iadd eX12_row_109 ?_
            refine z_rp (j := 11) lX12_71 eX12_row_110 rfl hR rfl rfl ?_
            rw [pS_s11]
            refine z_il3 eX12_row_113 ?_
            refine z_ireturn eX12_row_114 rfl ?_
            first | (rw [zif_t ⟨by omega, by rw [← h89]; exact hg.mp h94⟩, ← h89]; exact ⟨rfl, rfl, rfl, rfl⟩) | (rw [zif_f (fun z => h89 (by omega))]; exact ⟨rfl, rfl, rfl, rfl⟩) | (rw [zif_f (fun z => h94 (hg.mpr (by rw [h89]; exact z.2)))]; exact ⟨rfl, rfl, rfl, rfl⟩)
          · refine z_al0 eX12_row_97 hR.ne ?_
            refine z_il3 eX12_row_98 ?_
            refine z_V1v eX12_row_99 vX12_97 rfl rfl (Nat.le_of_ble_eq_true rfl) (Nat.le_of_ble_eq_true rfl) hR.x (p_X12_wrong hR (by first | assumption | exact zin_m1)) ?_
            rw [if_pos rfl]
            refine z_goto eX12_row_102 (tgt := 113) rfl ?_
            refine z_il3 eX12_row_113 ?_
            refine z_ireturn eX12_row_114 rfl ?_
            first | (rw [zif_t ⟨by omega, by rw [← h89]; exact hg.mp h94⟩, ← h89]; exact ⟨rfl, rfl, rfl, rfl⟩) | (rw [zif_f (fun z => h89 (by omega))]; exact ⟨rfl, rfl, rfl, rfl⟩) | (rw [zif_f (fun z => h94 (hg.mpr (by rw [h89]; exact z.2)))]; exact ⟨rfl, rfl, rfl, rfl⟩)
      intro m
      induction m with
      | zero =>
        intro n g hm h0 h1 hsc hg
        rw [qscan_ge (k := b + n) (by omega)] at hsc
        refine z_il3 eX12_row_24 ?_
        refine z_il4 eX12_row_25 ?_
        refine z_iadd eX12_row_27 ?_
        refine z_al0 eX12_row_28 hR.ne ?_
        refine z_rg (j := 10) lX12_74 eX12_row_29 rfl hR rfl rfl ?_
        rw [pS_10]
        refine z_icmp_ge (tgt := 86) eX12_row_32 rfl ⟨⟨by omega, by omega⟩, ⟨by omega, by omega⟩⟩ (fun h32 => ?_) (fun h32 => (by exfalso; omega))
        exact ht n g h0 h1 hsc hg
      | succ m ih =>
        intro n g hm h0 h1 hsc hg
        have hlet := hT.2.2.2 (b + n) (by omega) (by omega)
        refine z_il3 eX12_row_24 ?_
        refine z_il4 eX12_row_25 ?_
        refine z_iadd eX12_row_27 ?_
        refine z_al0 eX12_row_28 hR.ne ?_
        refine z_rg (j := 10) lX12_74 eX12_row_29 rfl hR rfl rfl ?_
        rw [pS_10]
        refine z_icmp_ge (tgt := 86) eX12_row_32 rfl ⟨⟨by omega, by omega⟩, ⟨by omega, by omega⟩⟩ (fun h32 => (by exfalso; omega)) (fun h32 => ?_)
        refine z_al0 eX12_row_35 hR.ne ?_
        refine z_il3 eX12_row_36 ?_
        refine z_il4 eX12_row_37 ?_
        refine z_iadd eX12_row_39 ?_
        refine z_V1 eX12_row_40 vX12_77 rfl rfl (Nat.le_of_ble_eq_true rfl) (Nat.le_of_ble_eq_true rfl) hR.x (p_X12_letter hR hT ⟨by omega, by omega⟩) ?_
        refine z_bipush eX12_row_43 (by decide) ?_
        refine z_bipush eX12_row_45 (by decide) ?_
        refine z_S3 eX12_row_47 vX12_51 rfl rfl (Nat.le_of_ble_eq_true rfl) (Nat.le_of_ble_eq_true rfl) (m_X12_isIn (by refine ⟨?_, ?_, ?_⟩ <;> first | omega | decide | assumption)) ?_
        refine z_ifb_eq (tgt := 86) eX12_row_50 rfl (fun h50 => ?_) (fun h50 => ?_)
        · exact ht n g h0 h1 (by rw [hsc, qscan_f (k := b + n) (by omega) (by simpa [qdig] using h50)]) hg
        · refine z_il5 eX12_row_53 ?_
          refine z_ifb_eq (tgt := 77) eX12_row_55 rfl (fun h55 => ?_) (fun h55 => ?_)
          · refine z_iconst eX12_row_77 ?_
            have hs2 := hsc.trans (qscan_t (k := b + n) (by omega) (by simpa [qdig] using h50))
            rw [Int.add_assoc] at hs2
            refine z_is5 eX12_row_78 (Nat.ne_of_beq_eq_false rfl) ?_
            refine z_ii4 eX12_row_80 (Nat.ne_of_beq_eq_false rfl) ?_
            refine z_goto eX12_row_83 (tgt := 24) rfl ?_
            first | exact zW_b1 (L1 := [zP x, zI many, zI most, zI b, zI (n + 1)]) (L2 := []) (p := qmost (rT σ) b (n + 1) most) (qmost_1 hg h55 (by omega)) (ih (n + 1) _ (by omega) (by omega) (by omega) hs2 Iff.rfl) | exact zW_b0 (L1 := [zP x, zI many, zI most, zI b, zI (n + 1)]) (L2 := []) (p := qmost (rT σ) b (n + 1) most) (qmost_n h0 (by omega)) (ih (n + 1) _ (by omega) (by omega) (by omega) hs2 Iff.rfl) | exact zW_b0 (L1 := [zP x, zI many, zI most, zI b, zI (n + 1)]) (L2 := []) (p := qmost (rT σ) b (n + 1) most) (qmost_f hg h55) (ih (n + 1) _ (by omega) (by omega) (by omega) hs2 Iff.rfl)
          · refine z_al0 eX12_row_58 hR.ne ?_
            refine z_il3 eX12_row_59 ?_
            refine z_il4 eX12_row_60 ?_
            refine z_iadd eX12_row_62 ?_
            refine z_V1 eX12_row_63 vX12_77 rfl rfl (Nat.le_of_ble_eq_true rfl) (Nat.le_of_ble_eq_true rfl) hR.x (p_X12_letter hR hT ⟨by omega, by omega⟩) ?_
            refine z_bipush eX12_row_66 (by decide) ?_
            refine z_isub eX12_row_68 ?_
            refine z_il2 eX12_row_69 ?_
            refine z_icmp_gt (tgt := 77) eX12_row_70 rfl ⟨⟨by omega, by omega⟩, hhi⟩ (fun h70 => ?_) (fun h70 => ?_)
            · refine z_iconst eX12_row_77 ?_
              have hs2 := hsc.trans (qscan_t (k := b + n) (by omega) (by simpa [qdig] using h50))
              rw [Int.add_assoc] at hs2
              refine z_is5 eX12_row_78 (Nat.ne_of_beq_eq_false rfl) ?_
              refine z_ii4 eX12_row_80 (Nat.ne_of_beq_eq_false rfl) ?_
              refine z_goto eX12_row_83 (tgt := 24) rfl ?_
              first | exact zW_b1 (L1 := [zP x, zI many, zI most, zI b, zI (n + 1)]) (L2 := []) (p := qmost (rT σ) b (n + 1) most) (qmost_1 hg h55 (by omega)) (ih (n + 1) _ (by omega) (by omega) (by omega) hs2 Iff.rfl) | exact zW_b0 (L1 := [zP x, zI many, zI most, zI b, zI (n + 1)]) (L2 := []) (p := qmost (rT σ) b (n + 1) most) (qmost_n h0 (by omega)) (ih (n + 1) _ (by omega) (by omega) (by omega) hs2 Iff.rfl) | exact zW_b0 (L1 := [zP x, zI many, zI most, zI b, zI (n + 1)]) (L2 := []) (p := qmost (rT σ) b (n + 1) most) (qmost_f hg h55) (ih (n + 1) _ (by omega) (by omega) (by omega) hs2 Iff.rfl)
            · refine z_iconst eX12_row_73 ?_
              refine z_goto eX12_row_74 (tgt := 78) rfl ?_
              have hs2 := hsc.trans (qscan_t (k := b + n) (by omega) (by simpa [qdig] using h50))
              rw [Int.add_assoc] at hs2
              refine z_is5 eX12_row_78 (Nat.ne_of_beq_eq_false rfl) ?_
              refine z_ii4 eX12_row_80 (Nat.ne_of_beq_eq_false rfl) ?_
              refine z_goto eX12_row_83 (tgt := 24) rfl ?_
              first | exact zW_b1 (L1 := [zP x, zI many, zI most, zI b, zI (n + 1)]) (L2 := []) (p := qmost (rT σ) b (n + 1) most) (qmost_1 hg h55 (by omega)) (ih (n + 1) _ (by omega) (by omega) (by omega) hs2 Iff.rfl) | exact zW_b0 (L1 := [zP x, zI many, zI most, zI b, zI (n + 1)]) (L2 := []) (p := qmost (rT σ) b (n + 1) most) (qmost_n h0 (by omega)) (ih (n + 1) _ (by omega) (by omega) (by omega) hs2 Iff.rfl) | exact zW_b0 (L1 := [zP x, zI many, zI most, zI b, zI (n + 1)]) (L2 := []) (p := qmost (rT σ) b (n + 1) most) (qmost_f hg h55) (ih (n + 1) _ (by omega) (by omega) (by omega) hs2 Iff.rfl)
    refine z_met' (L := [zP x, zI many, zI most, zU, zU, zU]) gX12_row.1 rfl rfl (Nat.le_of_ble_eq_true rfl) rfl ?_
    refine z_al0 eX12_row_0 hR.ne ?_
    refine z_rg (j := 12) lX12_25 eX12_row_1 rfl hR rfl rfl ?_
    rw [pS_12]
    refine z_iconst eX12_row_4 ?_
    refine z_icmp_eq (tgt := 13) eX12_row_5 rfl ⟨⟨by omega, by omega⟩, ⟨by omega, by omega⟩⟩ (fun h5 => ?_) (fun h5 => (by exfalso; omega))
    refine z_al0 eX12_row_13 hR.ne ?_
    refine z_V0 eX12_row_14 vX12_94 rfl rfl (Nat.le_of_ble_eq_true rfl) (Nat.le_of_ble_eq_true rfl) hR.x (p_X12_here hR hT ⟨by omega, by omega⟩) ?_
    rw [hb]
    refine z_is3 eX12_row_17 (Nat.ne_of_beq_eq_false rfl) ?_
    refine z_iconst eX12_row_18 ?_
    refine z_is4 eX12_row_19 (Nat.ne_of_beq_eq_false rfl) ?_
    refine z_iconst eX12_row_21 ?_
    refine z_is5 eX12_row_22 (Nat.ne_of_beq_eq_false rfl) ?_
    have := hl _ 0 True rfl (by omega) (by omega) (by rw [Int.add_zero]) qmost_0
    rw [zbi_t trivial] at this
    exact this
  · have e : qRow (rT σ) (σ 0 10) many most a f = (a, a, f) := by unfold qRow; rw [if_neg hf1]
    rw [e]
    refine z_met' (L := [zP x, zI many, zI most, zU, zU, zU]) gX12_row.1 rfl rfl (Nat.le_of_ble_eq_true rfl) rfl ?_
    refine z_al0 eX12_row_0 hR.ne ?_
    refine z_rg (j := 12) lX12_25 eX12_row_1 rfl hR rfl rfl ?_
    rw [pS_12]
    refine z_iconst eX12_row_4 ?_
    refine z_icmp_eq (tgt := 13) eX12_row_5 rfl ⟨hf, by decide⟩ (fun h5 => absurd h5 hf1) (fun h5 => ?_)
    refine z_al0 eX12_row_8 hR.ne ?_
    refine z_rg (j := 11) lX12_71 eX12_row_9 rfl hR rfl rfl ?_
    rw [pS_11]
    refine z_ireturn eX12_row_12 rfl ?_
    first | exact ⟨rfl, rfl, rfl, rfl⟩ | exact zRb1 (by omega) | exact zRb0 (by omega) | exact zRe (by omega)
