/-! A line of the law. -/
theorem zset_f {C : zMem} {o j v j' : Int} (h : j' ≠ j) : zset C o j v o j' = C o j' := by simp [zset_at, h]
noncomputable def qL2 (T : Int → Int) (e : Int) (A : Int → Int × Int × Int) (k n p f : Int) : Int × Int × Int × Int × Int :=
  if f = -1 then zif (qhas T e (qscan qbl T e p) qw_if) (if (qSm T e A (qscan qbl T e p + 2)).2.2 = -1 then (k, n, qSm T e A (qscan qbl T e p + 2)) else (-1, 0, 0, (qSm T e A (qscan qbl T e p + 2)).2)) (k, n, 1, qscan qbl T e p, -1) else (-1, 0, 0, p, f)
noncomputable def qL1 (T : Int → Int) (e : Int) (A : Int → Int × Int × Int) (k p : Int) : Int × Int × Int × Int × Int :=
  if k = 2 then qL2 T e A k 0 p (-1) else qL2 T e A k (qFig T e 0 20 p (-1)).1 (qFig T e 0 20 p (-1)).2.1 (qFig T e 0 20 p (-1)).2.2
/-- a line: its kind (none: a fault), its number, whether it is so, the place, the fault -/
noncomputable def qLine (T : Int → Int) (e : Int) (A : Int → Int × Int × Int) (a : Int) : Int × Int × Int × Int × Int :=
  zif (qhas T e (qscan qbl T e a) qw_feel) (qL1 T e A 0 (qscan qbl T e a + 4)) (zif (qhas T e (qscan qbl T e a) qw_dull) (qL1 T e A 1 (qscan qbl T e a + 4)) (zif (qhas T e (qscan qbl T e a) qw_lapse) (qL1 T e A 2 (qscan qbl T e a + 5)) (-1, 0, 0, qscan qbl T e a, qscan qbl T e a)))
def qLf (k n s fe : Int) : Int := if s = 0 then fe else fe + (if k = 0 then n else if k = 1 then -n else 0)
def qLh (k h : Int) : Int := if k = 2 then 1 else h
def qLl (k s l : Int) : Int := if s = 0 then l else if k = 2 then 1 else l
def zLw (σ : zMem) (W : Int × Int × Int) : zMem := zset (zset (zset σ 0 18 W.2.1) 0 19 W.2.2) 0 17 W.1
def qLw (L : Int × Int × Int × Int × Int) (W : Int × Int × Int) : Int × Int × Int := (qLf L.1 L.2.1 L.2.2.1 W.1, qLh L.1 W.2.1, qLl L.1 L.2.2.1 W.2.2)
theorem zLw_at {σ : zMem} {W : Int × Int × Int} {o j : Int} : zLw σ W o j = if o = 0 ∧ j = 17 then W.1 else if o = 0 ∧ j = 19 then W.2.2 else if o = 0 ∧ j = 18 then W.2.1 else σ o j := rfl
theorem zLw_f {σ : zMem} {W : Int × Int × Int} {j : Int} (h : j < 17) : zLw σ W 0 j = σ 0 j := by
  rw [zLw_at, if_neg (by omega), if_neg (by omega), if_neg (by omega)]
theorem zLw_o {σ : zMem} {W : Int × Int × Int} {o : Int} (h : o ≠ 0) : zLw σ W o = σ o := by
  funext j; rw [zLw_at, if_neg (by omega), if_neg (by omega), if_neg (by omega)]
theorem zLw_17 {σ : zMem} {W : Int × Int × Int} : zLw σ W 0 17 = W.1 := rfl
theorem zLw_18 {σ : zMem} {W : Int × Int × Int} : zLw σ W 0 18 = W.2.1 := rfl
theorem zLw_19 {σ : zMem} {W : Int × Int × Int} : zLw σ W 0 19 = W.2.2 := rfl
theorem zLw_0 {σ : zMem} : zLw σ (σ 0 17, σ 0 18, σ 0 19) = σ := by
  funext o j
  rw [zLw_at]
  split
  · rename_i h; rw [h.1, h.2]
  · split
    · rename_i h; rw [h.1, h.2]
    · split
      · rename_i h; rw [h.1, h.2]
      · rfl
theorem zLw_1 {σ : zMem} {h : Int} : zLw σ (σ 0 17, h, σ 0 19) = zset σ 0 18 h := by
  funext o j
  rw [zLw_at, zset_at]
  by_cases h1 : o = 0 ∧ j = 17
  · rw [if_pos h1, if_neg (by omega), h1.1, h1.2]
  · rw [if_neg h1]
    by_cases h2 : o = 0 ∧ j = 19
    · rw [if_pos h2, if_neg (by omega), h2.1, h2.2]
    · rw [if_neg h2]
theorem zLw_zLw {σ : zMem} {W V : Int × Int × Int} : zLw (zLw σ W) V = zLw σ V := by
  funext o j
  simp only [zLw_at]
  repeat' split
  all_goals rfl
theorem LwH.w {σ : zMem} (h : LwH σ) (W : Int × Int × Int) : LwH (zLw σ W) ∧ rT (zLw σ W) = rT σ := by
  have hT := h.1.of (σ' := zLw σ W) (zLw_f (by decide)) (zLw_f (by decide)) (zLw_o (by decide)) (zLw_o (by decide))
  exact ⟨⟨hT.1, by rw [zLw_o (by decide)]; exact h.2.1, by rw [zLw_f (by decide)]; exact h.2.2.1, by rw [zLw_f (by decide)]; exact h.2.2.2⟩, hT.2⟩
theorem zLw_fin {lay : zLay} {σ C0 : zMem} {nx x p : Int} {fe h l fe' h' l' : Int} (e1 : fe = fe') (e2 : h = h') (e3 : l = l') : zR none lay (rC x (pS (zLw σ (fe, h, l)) p (-1)) C0) nx (.inl none) lay (rC x (pS (zset (zset (zset σ 0 18 h') 0 19 l') 0 17 fe') p (-1)) C0) nx := by
  subst e1 e2 e3
  exact ⟨rfl, rfl, rfl, rfl⟩
theorem zLw_fi1 {lay : zLay} {σ C0 : zMem} {nx x p : Int} {fe h l h' : Int} (e1 : fe = σ 0 17) (e2 : h = h') (e3 : l = σ 0 19) : zR none lay (rC x (pS (zLw σ (fe, h, l)) p (-1)) C0) nx (.inl none) lay (rC x (pS (zset σ 0 18 h') p (-1)) C0) nx := by
  subst e1 e2 e3
  rw [zLw_1]
  exact ⟨rfl, rfl, rfl, rfl⟩
section ZLDW
variable {G : zG} {k : zK} {D pc pc' idx : Nat} {Q : zQ} {L st : List zAV} {lay : zLay} {C : zMem} {nx : Int} {b : Nat × Nat}
/-- a text's constant, far off -/
theorem z_ldcSw {t : Nat} {q : String × Nat × String × List Int} (hd : zD k pc (.ldc_w idx) 3 pc') (hk : q.1 = k.1.cls) (hi : q.2.1 = idx) (hq : zStr[t]? = some q) (hl9 : (lay (-10 - (t : Int))).1 = 104) (w : zW G k D Q pc' L (zP (-10 - (t : Int)) :: st) lay C nx b) : zW G k D Q pc L st lay C nx b := by
  subst hi
  intro p e R s m args below meth c H locs cells slots mc ms ls α₀ lay₀ α cx he hw hL hs hz hlo hc hm hl
  obtain ⟨tn, tq, u1, u2, u3, u4, u5⟩ := (hw.2.2.2.2.2.2.2.2 (-10 - (t : Int))).2.1 hl9
  have e1 : t = tn := by omega
  subst e1
  have hK := cx.2.2.2.2.2.2.2.2.2.1
  have hZ := (hK.2.2.2.2.1 t q hq).1
  have hown : s.vm.findClass q.1 = some m.cls := by rw [hk]; exact cx.2.2.2.2.1
  have kk := w p e R s m args below meth c H locs cells slots mc ms ls α₀ lay₀ α cx he hw hL (zok_c (zok_P (by rw [hl9]; exact Nat.succ_ne_zero _)) hs) hz hlo hc hm hl
  rw [List.map_cons, zc_P α (by omega), u3] at kk
  rw [← hd.2] at kk
  intro T hT X
  obtain ⟨t1, a1, b1⟩ := kk T hT X
  exact ⟨t1, X.ldcStringW cx.1 hown hZ.1 hZ.2 (g := F0 m pc ls (List.map (zc α) st)) rfl (by rw [cx.2.1]; exact hd.1) t1 a1, b1⟩
end ZLDW
/-- what a condition's atoms are, six deep -/
noncomputable abbrev qA6 (σ : zMem) : Int → Int × Int × Int := qAtom (rT σ) (σ 0 10) (σ 6) (σ 0 15) (σ 0 16) 6
theorem p_X12_lawLine {G : zG} {lay : zLay} {σ C0 : zMem} {nx x a f : Int} (hR : RefL lay x) (hS : TxS lay C0) (hL : LwH σ) (hd : σ 0 13 = 0) (hh : σ 0 18 = 0 ∨ σ 0 18 = 1) (hg : σ 0 19 = 0 ∨ σ 0 19 = 1) (ha : 0 ≤ a ∧ a ≤ σ 0 10) (hf : f = -1) : zMM G 63 KX12_lawLine [zP x] lay (rC x (pS σ a f) C0) nx (0, 0) (zR none lay (rC x (pS (zLw σ (qLw (qLine (rT σ) (σ 0 10) (qA6 σ) a) (σ 0 17, σ 0 18, σ 0 19))) (qLine (rT σ) (σ 0 10) (qA6 σ) a).2.2.2.1 (qLine (rT σ) (σ 0 10) (qA6 σ) a).2.2.2.2) C0) nx) := by
  refine z_met' (L := [zP x, zU, zU, zU]) gX12_lawLine.1 rfl rfl (Nat.le_of_ble_eq_true rfl) rfl ?_
  have hT := hL.1
  subst hf
  have he : σ 0 10 ≤ 400 := hT.2.2.1
  have hA := p_atom (G := G) (nx := nx) hR hS 6 σ (by decide) hL hd
  have hB := qAtom_bd (T := rT σ) (e := σ 0 10) hL.2.1 hL.2.2.1 hL.2.2.2 he hT.p 6
  have hSm := p_some (by omega) hR hS hT (by decide) (p_every hR hS hT (by decide) hA hB) hB
  have hBs := qSm_bd (T := rT σ) (by decide) hB
  generalize hAA : qA6 σ = A
  unfold qA6 at hAA
  rw [hAA] at hSm hBs
  have w113 : ∀ (k n s p : Int), 0 ≤ k → k ≤ 2 → (s = 0 ∨ s = 1) → zW G KX12_lawLine 63 (zR none lay (rC x (pS (zLw σ (qLw (k, n, s, p, -1) (σ 0 17, σ 0 18, σ 0 19))) p (-1)) C0) nx) 113 [zP x, zI k, zI n, zI s] [] lay (rC x (pS σ p (-1)) C0) nx (0, 0) := by
    intro k n s p hk0 hk1 hs
    unfold qLw
    dsimp only
    refine z_al0 eX12_lawLine_113 hR.ne ?_
    refine z_al0 eX12_lawLine_114 hR.ne ?_
    refine z_rg (j := 18) lX12_258 eX12_lawLine_115 rfl hR rfl rfl ?_
    rw [pS_f (by decide) (by decide)]
    refine z_if_ne (tgt := 126) eX12_lawLine_118 rfl ⟨by omega, by omega⟩ (fun h118 => ?_) (fun h118 => ?_)
    · refine z_iconst eX12_lawLine_126 ?_
      refine z_goto eX12_lawLine_127 (tgt := 131) rfl ?_
      refine z_rpz (j := 18) lX12_258 eX12_lawLine_131 rfl hR rfl rfl (by first | exact Or.inl rfl | exact Or.inr rfl | assumption | omega) ?_
      rw [pS_sf (by decide) (by decide)]
      refine z_il3 eX12_lawLine_134 ?_
      refine z_if_ne (tgt := 139) eX12_lawLine_135 rfl ⟨by omega, by omega⟩ (fun h135 => ?_) (fun h135 => ?_)
      · refine z_al0 eX12_lawLine_139 hR.ne ?_
        refine z_al0 eX12_lawLine_140 hR.ne ?_
        refine z_rg (j := 19) lX12_261 eX12_lawLine_141 rfl hR rfl rfl ?_
        rw [pS_f (by decide) (by decide)]
        rw [zset_f (by decide)]
        refine z_if_ne (tgt := 152) eX12_lawLine_144 rfl ⟨by omega, by omega⟩ (fun h144 => ?_) (fun h144 => ?_)
        · refine z_iconst eX12_lawLine_152 ?_
          refine z_goto eX12_lawLine_153 (tgt := 157) rfl ?_
          refine z_rpz (j := 19) lX12_261 eX12_lawLine_157 rfl hR rfl rfl (by first | exact Or.inl rfl | exact Or.inr rfl | assumption | omega) ?_
          rw [pS_sf (by decide) (by decide)]
          refine z_al0 eX12_lawLine_160 hR.ne ?_
          refine z_dup eX12_lawLine_161 (Nat.ne_of_beq_eq_false rfl) ?_
          refine z_rg (j := 17) lX12_264 eX12_lawLine_162 rfl hR rfl rfl ?_
          rw [pS_f (by decide) (by decide)]
          rw [zset_f (by decide), zset_f (by decide)]
          refine z_il1 eX12_lawLine_165 ?_
          refine z_if_ne (tgt := 173) eX12_lawLine_166 rfl ⟨by omega, by omega⟩ (fun h166 => ?_) (fun h166 => ?_)
          · refine z_il1 eX12_lawLine_173 ?_
            refine z_iconst eX12_lawLine_174 ?_
            refine z_icmp_ne (tgt := 183) eX12_lawLine_175 rfl ⟨⟨by omega, by omega⟩, ⟨by omega, by omega⟩⟩ (fun h175 => ?_) (fun h175 => ?_)
            · refine z_iconst eX12_lawLine_183 ?_
              refine z_iadd eX12_lawLine_184 ?_
              refine z_rp (j := 17) lX12_264 eX12_lawLine_185 rfl hR rfl rfl ?_
              rw [pS_sf (by decide) (by decide)]
              refine z_return eX12_lawLine_188 rfl ?_
              exact zLw_fin (by unfold qLf; (repeat' split) <;> omega) (by unfold qLh; (repeat' split) <;> omega) (by unfold qLl; (repeat' split) <;> omega)
            · refine z_il2 eX12_lawLine_178 ?_
              refine z_ineg eX12_lawLine_179 ?_
              refine z_goto eX12_lawLine_180 (tgt := 184) rfl ?_
              refine z_iadd eX12_lawLine_184 ?_
              refine z_rp (j := 17) lX12_264 eX12_lawLine_185 rfl hR rfl rfl ?_
              rw [pS_sf (by decide) (by decide)]
              refine z_return eX12_lawLine_188 rfl ?_
              exact zLw_fin (by unfold qLf; (repeat' split) <;> omega) (by unfold qLh; (repeat' split) <;> omega) (by unfold qLl; (repeat' split) <;> omega)
          · refine z_il2 eX12_lawLine_169 ?_
            refine z_goto eX12_lawLine_170 (tgt := 184) rfl ?_
            refine z_iadd eX12_lawLine_184 ?_
            refine z_rp (j := 17) lX12_264 eX12_lawLine_185 rfl hR rfl rfl ?_
            rw [pS_sf (by decide) (by decide)]
            refine z_return eX12_lawLine_188 rfl ?_
            exact zLw_fin (by unfold qLf; (repeat' split) <;> omega) (by unfold qLh; (repeat' split) <;> omega) (by unfold qLl; (repeat' split) <;> omega)
        · refine z_il1 eX12_lawLine_147 ?_
          refine z_iconst eX12_lawLine_148 ?_
          refine z_icmp_ne (tgt := 156) eX12_lawLine_149 rfl ⟨⟨by omega, by omega⟩, ⟨by omega, by omega⟩⟩ (fun h149 => ?_) (fun h149 => ?_)
          · refine z_iconst eX12_lawLine_156 ?_
            refine z_rpz (j := 19) lX12_261 eX12_lawLine_157 rfl hR rfl rfl (by first | exact Or.inl rfl | exact Or.inr rfl | assumption | omega) ?_
            rw [pS_sf (by decide) (by decide)]
            refine z_al0 eX12_lawLine_160 hR.ne ?_
            refine z_dup eX12_lawLine_161 (Nat.ne_of_beq_eq_false rfl) ?_
            refine z_rg (j := 17) lX12_264 eX12_lawLine_162 rfl hR rfl rfl ?_
            rw [pS_f (by decide) (by decide)]
            rw [zset_f (by decide), zset_f (by decide)]
            refine z_il1 eX12_lawLine_165 ?_
            refine z_if_ne (tgt := 173) eX12_lawLine_166 rfl ⟨by omega, by omega⟩ (fun h166 => ?_) (fun h166 => ?_)
            · refine z_il1 eX12_lawLine_173 ?_
              refine z_iconst eX12_lawLine_174 ?_
              refine z_icmp_ne (tgt := 183) eX12_lawLine_175 rfl ⟨⟨by omega, by omega⟩, ⟨by omega, by omega⟩⟩ (fun h175 => ?_) (fun h175 => ?_)
              · refine z_iconst eX12_lawLine_183 ?_
                refine z_iadd eX12_lawLine_184 ?_
                refine z_rp (j := 17) lX12_264 eX12_lawLine_185 rfl hR rfl rfl ?_
                rw [pS_sf (by decide) (by decide)]
                refine z_return eX12_lawLine_188 rfl ?_
                exact zLw_fin (by unfold qLf; (repeat' split) <;> omega) (by unfold qLh; (repeat' split) <;> omega) (by unfold qLl; (repeat' split) <;> omega)
              · refine z_il2 eX12_lawLine_178 ?_
                refine z_ineg eX12_lawLine_179 ?_
                refine z_goto eX12_lawLine_180 (tgt := 184) rfl ?_
                refine z_iadd eX12_lawLine_184 ?_
                refine z_rp (j := 17) lX12_264 eX12_lawLine_185 rfl hR rfl rfl ?_
                rw [pS_sf (by decide) (by decide)]
                refine z_return eX12_lawLine_188 rfl ?_
                exact zLw_fin (by unfold qLf; (repeat' split) <;> omega) (by unfold qLh; (repeat' split) <;> omega) (by unfold qLl; (repeat' split) <;> omega)
            · refine z_il2 eX12_lawLine_169 ?_
              refine z_goto eX12_lawLine_170 (tgt := 184) rfl ?_
              refine z_iadd eX12_lawLine_184 ?_
              refine z_rp (j := 17) lX12_264 eX12_lawLine_185 rfl hR rfl rfl ?_
              rw [pS_sf (by decide) (by decide)]
              refine z_return eX12_lawLine_188 rfl ?_
              exact zLw_fin (by unfold qLf; (repeat' split) <;> omega) (by unfold qLh; (repeat' split) <;> omega) (by unfold qLl; (repeat' split) <;> omega)
          · refine z_iconst eX12_lawLine_152 ?_
            refine z_goto eX12_lawLine_153 (tgt := 157) rfl ?_
            refine z_rpz (j := 19) lX12_261 eX12_lawLine_157 rfl hR rfl rfl (by first | exact Or.inl rfl | exact Or.inr rfl | assumption | omega) ?_
            rw [pS_sf (by decide) (by decide)]
            refine z_al0 eX12_lawLine_160 hR.ne ?_
            refine z_dup eX12_lawLine_161 (Nat.ne_of_beq_eq_false rfl) ?_
            refine z_rg (j := 17) lX12_264 eX12_lawLine_162 rfl hR rfl rfl ?_
            rw [pS_f (by decide) (by decide)]
            rw [zset_f (by decide), zset_f (by decide)]
            refine z_il1 eX12_lawLine_165 ?_
            refine z_if_ne (tgt := 173) eX12_lawLine_166 rfl ⟨by omega, by omega⟩ (fun h166 => ?_) (fun h166 => ?_)
            · refine z_il1 eX12_lawLine_173 ?_
              refine z_iconst eX12_lawLine_174 ?_
              refine z_icmp_ne (tgt := 183) eX12_lawLine_175 rfl ⟨⟨by omega, by omega⟩, ⟨by omega, by omega⟩⟩ (fun h175 => ?_) (fun h175 => ?_)
              · refine z_iconst eX12_lawLine_183 ?_
                refine z_iadd eX12_lawLine_184 ?_
                refine z_rp (j := 17) lX12_264 eX12_lawLine_185 rfl hR rfl rfl ?_
                rw [pS_sf (by decide) (by decide)]
                refine z_return eX12_lawLine_188 rfl ?_
                exact zLw_fin (by unfold qLf; (repeat' split) <;> omega) (by unfold qLh; (repeat' split) <;> omega) (by unfold qLl; (repeat' split) <;> omega)
              · refine z_il2 eX12_lawLine_178 ?_
                refine z_ineg eX12_lawLine_179 ?_
                refine z_goto eX12_lawLine_180 (tgt := 184) rfl ?_
                refine z_iadd eX12_lawLine_184 ?_
                refine z_rp (j := 17) lX12_264 eX12_lawLine_185 rfl hR rfl rfl ?_
                rw [pS_sf (by decide) (by decide)]
                refine z_return eX12_lawLine_188 rfl ?_
                exact zLw_fin (by unfold qLf; (repeat' split) <;> omega) (by unfold qLh; (repeat' split) <;> omega) (by unfold qLl; (repeat' split) <;> omega)
            · refine z_il2 eX12_lawLine_169 ?_
              refine z_goto eX12_lawLine_170 (tgt := 184) rfl ?_
              refine z_iadd eX12_lawLine_184 ?_
              refine z_rp (j := 17) lX12_264 eX12_lawLine_185 rfl hR rfl rfl ?_
              rw [pS_sf (by decide) (by decide)]
              refine z_return eX12_lawLine_188 rfl ?_
              exact zLw_fin (by unfold qLf; (repeat' split) <;> omega) (by unfold qLh; (repeat' split) <;> omega) (by unfold qLl; (repeat' split) <;> omega)
      · refine z_return eX12_lawLine_138 rfl ?_
        exact zLw_fi1 (by unfold qLf; (repeat' split) <;> omega) (by unfold qLh; (repeat' split) <;> omega) (by unfold qLl; (repeat' split) <;> omega)
    · refine z_il1 eX12_lawLine_121 ?_
      refine z_iconst eX12_lawLine_122 ?_
      refine z_icmp_ne (tgt := 130) eX12_lawLine_123 rfl ⟨⟨by omega, by omega⟩, ⟨by omega, by omega⟩⟩ (fun h123 => ?_) (fun h123 => ?_)
      · refine z_iconst eX12_lawLine_130 ?_
        refine z_rpz (j := 18) lX12_258 eX12_lawLine_131 rfl hR rfl rfl (by first | exact Or.inl rfl | exact Or.inr rfl | assumption | omega) ?_
        rw [pS_sf (by decide) (by decide)]
        refine z_il3 eX12_lawLine_134 ?_
        refine z_if_ne (tgt := 139) eX12_lawLine_135 rfl ⟨by omega, by omega⟩ (fun h135 => ?_) (fun h135 => ?_)
        · refine z_al0 eX12_lawLine_139 hR.ne ?_
          refine z_al0 eX12_lawLine_140 hR.ne ?_
          refine z_rg (j := 19) lX12_261 eX12_lawLine_141 rfl hR rfl rfl ?_
          rw [pS_f (by decide) (by decide)]
          rw [zset_f (by decide)]
          refine z_if_ne (tgt := 152) eX12_lawLine_144 rfl ⟨by omega, by omega⟩ (fun h144 => ?_) (fun h144 => ?_)
          · refine z_iconst eX12_lawLine_152 ?_
            refine z_goto eX12_lawLine_153 (tgt := 157) rfl ?_
            refine z_rpz (j := 19) lX12_261 eX12_lawLine_157 rfl hR rfl rfl (by first | exact Or.inl rfl | exact Or.inr rfl | assumption | omega) ?_
            rw [pS_sf (by decide) (by decide)]
            refine z_al0 eX12_lawLine_160 hR.ne ?_
            refine z_dup eX12_lawLine_161 (Nat.ne_of_beq_eq_false rfl) ?_
            refine z_rg (j := 17) lX12_264 eX12_lawLine_162 rfl hR rfl rfl ?_
            rw [pS_f (by decide) (by decide)]
            rw [zset_f (by decide), zset_f (by decide)]
            refine z_il1 eX12_lawLine_165 ?_
            refine z_if_ne (tgt := 173) eX12_lawLine_166 rfl ⟨by omega, by omega⟩ (fun h166 => ?_) (fun h166 => ?_)
            · refine z_il1 eX12_lawLine_173 ?_
              refine z_iconst eX12_lawLine_174 ?_
              refine z_icmp_ne (tgt := 183) eX12_lawLine_175 rfl ⟨⟨by omega, by omega⟩, ⟨by omega, by omega⟩⟩ (fun h175 => ?_) (fun h175 => ?_)
              · refine z_iconst eX12_lawLine_183 ?_
                refine z_iadd eX12_lawLine_184 ?_
                refine z_rp (j := 17) lX12_264 eX12_lawLine_185 rfl hR rfl rfl ?_
                rw [pS_sf (by decide) (by decide)]
                refine z_return eX12_lawLine_188 rfl ?_
                exact zLw_fin (by unfold qLf; (repeat' split) <;> omega) (by unfold qLh; (repeat' split) <;> omega) (by unfold qLl; (repeat' split) <;> omega)
              · refine z_il2 eX12_lawLine_178 ?_
                refine z_ineg eX12_lawLine_179 ?_
                refine z_goto eX12_lawLine_180 (tgt := 184) rfl ?_
                refine z_iadd eX12_lawLine_184 ?_
                refine z_rp (j := 17) lX12_264 eX12_lawLine_185 rfl hR rfl rfl ?_
                rw [pS_sf (by decide) (by decide)]
                refine z_return eX12_lawLine_188 rfl ?_
                exact zLw_fin (by unfold qLf; (repeat' split) <;> omega) (by unfold qLh; (repeat' split) <;> omega) (by unfold qLl; (repeat' split) <;> omega)
            · refine z_il2 eX12_lawLine_169 ?_
              refine z_goto eX12_lawLine_170 (tgt := 184) rfl ?_
              refine z_iadd eX12_lawLine_184 ?_
              refine z_rp (j := 17) lX12_264 eX12_lawLine_185 rfl hR rfl rfl ?_
              rw [pS_sf (by decide) (by decide)]
              refine z_return eX12_lawLine_188 rfl ?_
              exact zLw_fin (by unfold qLf; (repeat' split) <;> omega) (by unfold qLh; (repeat' split) <;> omega) (by unfold qLl; (repeat' split) <;> omega)
          · refine z_il1 eX12_lawLine_147 ?_
            refine z_iconst eX12_lawLine_148 ?_
            refine z_icmp_ne (tgt := 156) eX12_lawLine_149 rfl ⟨⟨by omega, by omega⟩, ⟨by omega, by omega⟩⟩ (fun h149 => ?_) (fun h149 => ?_)
            · refine z_iconst eX12_lawLine_156 ?_
              refine z_rpz (j := 19) lX12_261 eX12_lawLine_157 rfl hR rfl rfl (by first | exact Or.inl rfl | exact Or.inr rfl | assumption | omega) ?_
              rw [pS_sf (by decide) (by decide)]
              refine z_al0 eX12_lawLine_160 hR.ne ?_
              refine z_dup eX12_lawLine_161 (Nat.ne_of_beq_eq_false rfl) ?_
              refine z_rg (j := 17) lX12_264 eX12_lawLine_162 rfl hR rfl rfl ?_
              rw [pS_f (by decide) (by decide)]
              rw [zset_f (by decide), zset_f (by decide)]
              refine z_il1 eX12_lawLine_165 ?_
              refine z_if_ne (tgt := 173) eX12_lawLine_166 rfl ⟨by omega, by omega⟩ (fun h166 => ?_) (fun h166 => ?_)
              · refine z_il1 eX12_lawLine_173 ?_
                refine z_iconst eX12_lawLine_174 ?_
                refine z_icmp_ne (tgt := 183) eX12_lawLine_175 rfl ⟨⟨by omega, by omega⟩, ⟨by omega, by omega⟩⟩ (fun h175 => ?_) (fun h175 => ?_)
                · refine z_iconst eX12_lawLine_183 ?_
                  refine z_iadd eX12_lawLine_184 ?_
                  refine z_rp (j := 17) lX12_264 eX12_lawLine_185 rfl hR rfl rfl ?_
                  rw [pS_sf (by decide) (by decide)]
                  refine z_return eX12_lawLine_188 rfl ?_
                  exact zLw_fin (by unfold qLf; (repeat' split) <;> omega) (by unfold qLh; (repeat' split) <;> omega) (by unfold qLl; (repeat' split) <;> omega)
                · refine z_il2 eX12_lawLine_178 ?_
                  refine z_ineg eX12_lawLine_179 ?_
                  refine z_goto eX12_lawLine_180 (tgt := 184) rfl ?_
                  refine z_iadd eX12_lawLine_184 ?_
                  refine z_rp (j := 17) lX12_264 eX12_lawLine_185 rfl hR rfl rfl ?_
                  rw [pS_sf (by decide) (by decide)]
                  refine z_return eX12_lawLine_188 rfl ?_
                  exact zLw_fin (by unfold qLf; (repeat' split) <;> omega) (by unfold qLh; (repeat' split) <;> omega) (by unfold qLl; (repeat' split) <;> omega)
              · refine z_il2 eX12_lawLine_169 ?_
                refine z_goto eX12_lawLine_170 (tgt := 184) rfl ?_
                refine z_iadd eX12_lawLine_184 ?_
                refine z_rp (j := 17) lX12_264 eX12_lawLine_185 rfl hR rfl rfl ?_
                rw [pS_sf (by decide) (by decide)]
                refine z_return eX12_lawLine_188 rfl ?_
                exact zLw_fin (by unfold qLf; (repeat' split) <;> omega) (by unfold qLh; (repeat' split) <;> omega) (by unfold qLl; (repeat' split) <;> omega)
            · refine z_iconst eX12_lawLine_152 ?_
              refine z_goto eX12_lawLine_153 (tgt := 157) rfl ?_
              refine z_rpz (j := 19) lX12_261 eX12_lawLine_157 rfl hR rfl rfl (by first | exact Or.inl rfl | exact Or.inr rfl | assumption | omega) ?_
              rw [pS_sf (by decide) (by decide)]
              refine z_al0 eX12_lawLine_160 hR.ne ?_
              refine z_dup eX12_lawLine_161 (Nat.ne_of_beq_eq_false rfl) ?_
              refine z_rg (j := 17) lX12_264 eX12_lawLine_162 rfl hR rfl rfl ?_
              rw [pS_f (by decide) (by decide)]
              rw [zset_f (by decide), zset_f (by decide)]
              refine z_il1 eX12_lawLine_165 ?_
              refine z_if_ne (tgt := 173) eX12_lawLine_166 rfl ⟨by omega, by omega⟩ (fun h166 => ?_) (fun h166 => ?_)
              · refine z_il1 eX12_lawLine_173 ?_
                refine z_iconst eX12_lawLine_174 ?_
                refine z_icmp_ne (tgt := 183) eX12_lawLine_175 rfl ⟨⟨by omega, by omega⟩, ⟨by omega, by omega⟩⟩ (fun h175 => ?_) (fun h175 => ?_)
                · refine z_iconst eX12_lawLine_183 ?_
                  refine z_iadd eX12_lawLine_184 ?_
                  refine z_rp (j := 17) lX12_264 eX12_lawLine_185 rfl hR rfl rfl ?_
                  rw [pS_sf (by decide) (by decide)]
                  refine z_return eX12_lawLine_188 rfl ?_
                  exact zLw_fin (by unfold qLf; (repeat' split) <;> omega) (by unfold qLh; (repeat' split) <;> omega) (by unfold qLl; (repeat' split) <;> omega)
                · refine z_il2 eX12_lawLine_178 ?_
                  refine z_ineg eX12_lawLine_179 ?_
                  refine z_goto eX12_lawLine_180 (tgt := 184) rfl ?_
                  refine z_iadd eX12_lawLine_184 ?_
                  refine z_rp (j := 17) lX12_264 eX12_lawLine_185 rfl hR rfl rfl ?_
                  rw [pS_sf (by decide) (by decide)]
                  refine z_return eX12_lawLine_188 rfl ?_
                  exact zLw_fin (by unfold qLf; (repeat' split) <;> omega) (by unfold qLh; (repeat' split) <;> omega) (by unfold qLl; (repeat' split) <;> omega)
              · refine z_il2 eX12_lawLine_169 ?_
                refine z_goto eX12_lawLine_170 (tgt := 184) rfl ?_
                refine z_iadd eX12_lawLine_184 ?_
                refine z_rp (j := 17) lX12_264 eX12_lawLine_185 rfl hR rfl rfl ?_
                rw [pS_sf (by decide) (by decide)]
                refine z_return eX12_lawLine_188 rfl ?_
                exact zLw_fin (by unfold qLf; (repeat' split) <;> omega) (by unfold qLh; (repeat' split) <;> omega) (by unfold qLl; (repeat' split) <;> omega)
        · refine z_return eX12_lawLine_138 rfl ?_
          exact zLw_fi1 (by unfold qLf; (repeat' split) <;> omega) (by unfold qLh; (repeat' split) <;> omega) (by unfold qLl; (repeat' split) <;> omega)
      · refine z_iconst eX12_lawLine_126 ?_
        refine z_goto eX12_lawLine_127 (tgt := 131) rfl ?_
        refine z_rpz (j := 18) lX12_258 eX12_lawLine_131 rfl hR rfl rfl (by first | exact Or.inl rfl | exact Or.inr rfl | assumption | omega) ?_
        rw [pS_sf (by decide) (by decide)]
        refine z_il3 eX12_lawLine_134 ?_
        refine z_if_ne (tgt := 139) eX12_lawLine_135 rfl ⟨by omega, by omega⟩ (fun h135 => ?_) (fun h135 => ?_)
        · refine z_al0 eX12_lawLine_139 hR.ne ?_
          refine z_al0 eX12_lawLine_140 hR.ne ?_
          refine z_rg (j := 19) lX12_261 eX12_lawLine_141 rfl hR rfl rfl ?_
          rw [pS_f (by decide) (by decide)]
          rw [zset_f (by decide)]
          refine z_if_ne (tgt := 152) eX12_lawLine_144 rfl ⟨by omega, by omega⟩ (fun h144 => ?_) (fun h144 => ?_)
          · refine z_iconst eX12_lawLine_152 ?_
            refine z_goto eX12_lawLine_153 (tgt := 157) rfl ?_
            refine z_rpz (j := 19) lX12_261 eX12_lawLine_157 rfl hR rfl rfl (by first | exact Or.inl rfl | exact Or.inr rfl | assumption | omega) ?_
            rw [pS_sf (by decide) (by decide)]
            refine z_al0 eX12_lawLine_160 hR.ne ?_
            refine z_dup eX12_lawLine_161 (Nat.ne_of_beq_eq_false rfl) ?_
            refine z_rg (j := 17) lX12_264 eX12_lawLine_162 rfl hR rfl rfl ?_
            rw [pS_f (by decide) (by decide)]
            rw [zset_f (by decide), zset_f (by decide)]
            refine z_il1 eX12_lawLine_165 ?_
            refine z_if_ne (tgt := 173) eX12_lawLine_166 rfl ⟨by omega, by omega⟩ (fun h166 => ?_) (fun h166 => ?_)
            · refine z_il1 eX12_lawLine_173 ?_
              refine z_iconst eX12_lawLine_174 ?_
              refine z_icmp_ne (tgt := 183) eX12_lawLine_175 rfl ⟨⟨by omega, by omega⟩, ⟨by omega, by omega⟩⟩ (fun h175 => ?_) (fun h175 => ?_)
              · refine z_iconst eX12_lawLine_183 ?_
                refine z_iadd eX12_lawLine_184 ?_
                refine z_rp (j := 17) lX12_264 eX12_lawLine_185 rfl hR rfl rfl ?_
                rw [pS_sf (by decide) (by decide)]
                refine z_return eX12_lawLine_188 rfl ?_
                exact zLw_fin (by unfold qLf; (repeat' split) <;> omega) (by unfold qLh; (repeat' split) <;> omega) (by unfold qLl; (repeat' split) <;> omega)
              · refine z_il2 eX12_lawLine_178 ?_
                refine z_ineg eX12_lawLine_179 ?_
                refine z_goto eX12_lawLine_180 (tgt := 184) rfl ?_
                refine z_iadd eX12_lawLine_184 ?_
                refine z_rp (j := 17) lX12_264 eX12_lawLine_185 rfl hR rfl rfl ?_
                rw [pS_sf (by decide) (by decide)]
                refine z_return eX12_lawLine_188 rfl ?_
                exact zLw_fin (by unfold qLf; (repeat' split) <;> omega) (by unfold qLh; (repeat' split) <;> omega) (by unfold qLl; (repeat' split) <;> omega)
            · refine z_il2 eX12_lawLine_169 ?_
              refine z_goto eX12_lawLine_170 (tgt := 184) rfl ?_
              refine z_iadd eX12_lawLine_184 ?_
              refine z_rp (j := 17) lX12_264 eX12_lawLine_185 rfl hR rfl rfl ?_
              rw [pS_sf (by decide) (by decide)]
              refine z_return eX12_lawLine_188 rfl ?_
              exact zLw_fin (by unfold qLf; (repeat' split) <;> omega) (by unfold qLh; (repeat' split) <;> omega) (by unfold qLl; (repeat' split) <;> omega)
          · refine z_il1 eX12_lawLine_147 ?_
            refine z_iconst eX12_lawLine_148 ?_
            refine z_icmp_ne (tgt := 156) eX12_lawLine_149 rfl ⟨⟨by omega, by omega⟩, ⟨by omega, by omega⟩⟩ (fun h149 => ?_) (fun h149 => ?_)
            · refine z_iconst eX12_lawLine_156 ?_
              refine z_rpz (j := 19) lX12_261 eX12_lawLine_157 rfl hR rfl rfl (by first | exact Or.inl rfl | exact Or.inr rfl | assumption | omega) ?_
              rw [pS_sf (by decide) (by decide)]
              refine z_al0 eX12_lawLine_160 hR.ne ?_
              refine z_dup eX12_lawLine_161 (Nat.ne_of_beq_eq_false rfl) ?_
              refine z_rg (j := 17) lX12_264 eX12_lawLine_162 rfl hR rfl rfl ?_
              rw [pS_f (by decide) (by decide)]
              rw [zset_f (by decide), zset_f (by decide)]
              refine z_il1 eX12_lawLine_165 ?_
              refine z_if_ne (tgt := 173) eX12_lawLine_166 rfl ⟨by omega, by omega⟩ (fun h166 => ?_) (fun h166 => ?_)
              · refine z_il1 eX12_lawLine_173 ?_
                refine z_iconst eX12_lawLine_174 ?_
                refine z_icmp_ne (tgt := 183) eX12_lawLine_175 rfl ⟨⟨by omega, by omega⟩, ⟨by omega, by omega⟩⟩ (fun h175 => ?_) (fun h175 => ?_)
                · refine z_iconst eX12_lawLine_183 ?_
                  refine z_iadd eX12_lawLine_184 ?_
                  refine z_rp (j := 17) lX12_264 eX12_lawLine_185 rfl hR rfl rfl ?_
                  rw [pS_sf (by decide) (by decide)]
                  refine z_return eX12_lawLine_188 rfl ?_
                  exact zLw_fin (by unfold qLf; (repeat' split) <;> omega) (by unfold qLh; (repeat' split) <;> omega) (by unfold qLl; (repeat' split) <;> omega)
                · refine z_il2 eX12_lawLine_178 ?_
                  refine z_ineg eX12_lawLine_179 ?_
                  refine z_goto eX12_lawLine_180 (tgt := 184) rfl ?_
                  refine z_iadd eX12_lawLine_184 ?_
                  refine z_rp (j := 17) lX12_264 eX12_lawLine_185 rfl hR rfl rfl ?_
                  rw [pS_sf (by decide) (by decide)]
                  refine z_return eX12_lawLine_188 rfl ?_
                  exact zLw_fin (by unfold qLf; (repeat' split) <;> omega) (by unfold qLh; (repeat' split) <;> omega) (by unfold qLl; (repeat' split) <;> omega)
              · refine z_il2 eX12_lawLine_169 ?_
                refine z_goto eX12_lawLine_170 (tgt := 184) rfl ?_
                refine z_iadd eX12_lawLine_184 ?_
                refine z_rp (j := 17) lX12_264 eX12_lawLine_185 rfl hR rfl rfl ?_
                rw [pS_sf (by decide) (by decide)]
                refine z_return eX12_lawLine_188 rfl ?_
                exact zLw_fin (by unfold qLf; (repeat' split) <;> omega) (by unfold qLh; (repeat' split) <;> omega) (by unfold qLl; (repeat' split) <;> omega)
            · refine z_iconst eX12_lawLine_152 ?_
              refine z_goto eX12_lawLine_153 (tgt := 157) rfl ?_
              refine z_rpz (j := 19) lX12_261 eX12_lawLine_157 rfl hR rfl rfl (by first | exact Or.inl rfl | exact Or.inr rfl | assumption | omega) ?_
              rw [pS_sf (by decide) (by decide)]
              refine z_al0 eX12_lawLine_160 hR.ne ?_
              refine z_dup eX12_lawLine_161 (Nat.ne_of_beq_eq_false rfl) ?_
              refine z_rg (j := 17) lX12_264 eX12_lawLine_162 rfl hR rfl rfl ?_
              rw [pS_f (by decide) (by decide)]
              rw [zset_f (by decide), zset_f (by decide)]
              refine z_il1 eX12_lawLine_165 ?_
              refine z_if_ne (tgt := 173) eX12_lawLine_166 rfl ⟨by omega, by omega⟩ (fun h166 => ?_) (fun h166 => ?_)
              · refine z_il1 eX12_lawLine_173 ?_
                refine z_iconst eX12_lawLine_174 ?_
                refine z_icmp_ne (tgt := 183) eX12_lawLine_175 rfl ⟨⟨by omega, by omega⟩, ⟨by omega, by omega⟩⟩ (fun h175 => ?_) (fun h175 => ?_)
                · refine z_iconst eX12_lawLine_183 ?_
                  refine z_iadd eX12_lawLine_184 ?_
                  refine z_rp (j := 17) lX12_264 eX12_lawLine_185 rfl hR rfl rfl ?_
                  rw [pS_sf (by decide) (by decide)]
                  refine z_return eX12_lawLine_188 rfl ?_
                  exact zLw_fin (by unfold qLf; (repeat' split) <;> omega) (by unfold qLh; (repeat' split) <;> omega) (by unfold qLl; (repeat' split) <;> omega)
                · refine z_il2 eX12_lawLine_178 ?_
                  refine z_ineg eX12_lawLine_179 ?_
                  refine z_goto eX12_lawLine_180 (tgt := 184) rfl ?_
                  refine z_iadd eX12_lawLine_184 ?_
                  refine z_rp (j := 17) lX12_264 eX12_lawLine_185 rfl hR rfl rfl ?_
                  rw [pS_sf (by decide) (by decide)]
                  refine z_return eX12_lawLine_188 rfl ?_
                  exact zLw_fin (by unfold qLf; (repeat' split) <;> omega) (by unfold qLh; (repeat' split) <;> omega) (by unfold qLl; (repeat' split) <;> omega)
              · refine z_il2 eX12_lawLine_169 ?_
                refine z_goto eX12_lawLine_170 (tgt := 184) rfl ?_
                refine z_iadd eX12_lawLine_184 ?_
                refine z_rp (j := 17) lX12_264 eX12_lawLine_185 rfl hR rfl rfl ?_
                rw [pS_sf (by decide) (by decide)]
                refine z_return eX12_lawLine_188 rfl ?_
                exact zLw_fin (by unfold qLf; (repeat' split) <;> omega) (by unfold qLh; (repeat' split) <;> omega) (by unfold qLl; (repeat' split) <;> omega)
        · refine z_return eX12_lawLine_138 rfl ?_
          exact zLw_fi1 (by unfold qLf; (repeat' split) <;> omega) (by unfold qLh; (repeat' split) <;> omega) (by unfold qLl; (repeat' split) <;> omega)
  have wno : ∀ (p f : Int), zLw σ (qLw (-1, 0, 0, p, f) (σ 0 17, σ 0 18, σ 0 19)) = σ := by
    intro p f
    show zLw σ (σ 0 17, σ 0 18, σ 0 19) = σ
    exact zLw_0
  have w72 : ∀ (k n p f : Int) (y : zAV), 0 ≤ k → k ≤ 2 → qAt (σ 0 10) p f → zW G KX12_lawLine 63 (zR none lay (rC x (pS (zLw σ (qLw (qL2 (rT σ) (σ 0 10) A k n p f) (σ 0 17, σ 0 18, σ 0 19))) (qL2 (rT σ) (σ 0 10) A k n p f).2.2.2.1 (qL2 (rT σ) (σ 0 10) A k n p f).2.2.2.2) C0) nx) 72 [zP x, zI k, zI n, y] [] lay (rC x (pS σ p f) C0) nx (0, 0) := by
    intro k n p f y hk0 hk1 hp
    obtain ⟨h1, h2, h3, h4⟩ := hp
    unfold qL2
    have hc := qskip_bd (T := rT σ) h2
    have hcc := qskip_idem (T := rT σ) (e := σ 0 10) (a := p)
    generalize hq : qscan qbl (rT σ) (σ 0 10) p = c at hc hcc ⊢
    have hw : qhas (rT σ) (σ 0 10) c qw_if → c + 2 ≤ σ 0 10 := fun z => qhas_bd z hc.2
    have hr : qhas (rT σ) (σ 0 10) c qw_if → _ := fun z => hBs (c + 2) (by omega) (hw z)
    have hS2 : qhas (rT σ) (σ 0 10) c qw_if → _ := fun z => hSm (c + 2) (by omega) (hw z)
    generalize qSm (rT σ) (σ 0 10) A (c + 2) = r at hr hS2 ⊢
    by_cases hf : f = -1
    · rw [if_pos hf]
      subst hf
      refine z_al0 eX12_lawLine_72 hR.ne ?_
      refine z_rg (j := 12) lX12_25 eX12_lawLine_73 rfl hR rfl rfl ?_
      rw [pS_12]
      refine z_iconst eX12_lawLine_76 ?_
      refine z_icmp_eq (tgt := 81) eX12_lawLine_77 rfl ⟨⟨by omega, by omega⟩, ⟨by omega, by omega⟩⟩ (fun h77 => ?_) (fun h77 => (by exfalso; omega))
      refine z_al0 eX12_lawLine_81 hR.ne ?_
      refine z_ldcSw (t := 62) eX12_lawLine_82 rfl rfl rfl (by rw [(hS 62 _ rfl).1]) ?_
      refine z_V1 eX12_lawLine_85 vX12_101 rfl rfl (Nat.le_of_ble_eq_true rfl) (Nat.le_of_ble_eq_true rfl) hR.x (p_has hR hS (t := 62) (w := qw_if) (n := 2) rfl rfl hT ⟨by omega, by omega⟩ (b := c) (by first | exact hb | exact hbb | assumption)) ?_
      refine z_ifh_eq (tgt := 98) eX12_lawLine_88 rfl (fun h88 => ?_) (fun h88 => ?_)
      · first | rw [zif_f h88] | skip
        refine z_iconst eX12_lawLine_98 ?_
        refine z_goto eX12_lawLine_99 (tgt := 103) rfl ?_
        refine z_is3 eX12_lawLine_103 (Nat.ne_of_beq_eq_false rfl) ?_
        refine z_al0 eX12_lawLine_104 hR.ne ?_
        refine z_rg (j := 12) lX12_25 eX12_lawLine_105 rfl hR rfl rfl ?_
        rw [pS_12]
        refine z_iconst eX12_lawLine_108 ?_
        refine z_icmp_eq (tgt := 113) eX12_lawLine_109 rfl ⟨⟨by omega, by omega⟩, ⟨by omega, by omega⟩⟩ (fun h109 => ?_) (fun h109 => ?_)
        · first | (have e := w113 k n 1 c hk0 hk1 (Or.inr rfl); exact e) | (have e : r.1 = 1 := (by omega); have e2 := w113 k n 1 r.2.1 hk0 hk1 (Or.inr rfl); rw [if_pos h109, h109, show r = (1, r.2.1, -1) from Prod.ext e (Prod.ext rfl h109)]; exact e2) | (have e : r.1 = 0 := (by omega); have e2 := w113 k n 0 r.2.1 hk0 hk1 (Or.inl rfl); rw [if_pos h109, h109, show r = (0, r.2.1, -1) from Prod.ext e (Prod.ext rfl h109)]; exact e2)
        · refine z_return eX12_lawLine_112 rfl ?_
          first | exact absurd rfl h109 | (rw [if_neg h109, wno]; exact ⟨rfl, rfl, rfl, rfl⟩)
      · refine z_al0 eX12_lawLine_91 hR.ne ?_
        refine z_V0 eX12_lawLine_92 vX12_240 rfl rfl (Nat.le_of_ble_eq_true rfl) (Nat.le_of_ble_eq_true rfl) hR.x (hS2 h88) ?_
        rw [zif_t h88]
        obtain ⟨⟨c1, c2, c3, c4, c5⟩, c6, c7⟩ := hr h88
        refine z_if_eq (tgt := 102) eX12_lawLine_95 rfl ⟨by omega, by omega⟩ (fun h95 => ?_) (fun h95 => ?_)
        · refine z_iconst eX12_lawLine_102 ?_
          refine z_is3 eX12_lawLine_103 (Nat.ne_of_beq_eq_false rfl) ?_
          refine z_al0 eX12_lawLine_104 hR.ne ?_
          refine z_rg (j := 12) lX12_25 eX12_lawLine_105 rfl hR rfl rfl ?_
          rw [pS_12]
          refine z_iconst eX12_lawLine_108 ?_
          refine z_icmp_eq (tgt := 113) eX12_lawLine_109 rfl ⟨⟨by omega, by omega⟩, ⟨by omega, by omega⟩⟩ (fun h109 => ?_) (fun h109 => ?_)
          · first | (have e := w113 k n 1 c hk0 hk1 (Or.inr rfl); exact e) | (have e : r.1 = 1 := (by omega); have e2 := w113 k n 1 r.2.1 hk0 hk1 (Or.inr rfl); rw [if_pos h109, h109, show r = (1, r.2.1, -1) from Prod.ext e (Prod.ext rfl h109)]; exact e2) | (have e : r.1 = 0 := (by omega); have e2 := w113 k n 0 r.2.1 hk0 hk1 (Or.inl rfl); rw [if_pos h109, h109, show r = (0, r.2.1, -1) from Prod.ext e (Prod.ext rfl h109)]; exact e2)
          · refine z_return eX12_lawLine_112 rfl ?_
            first | exact absurd rfl h109 | (rw [if_neg h109, wno]; exact ⟨rfl, rfl, rfl, rfl⟩)
        · first | rw [zif_f h88] | skip
          refine z_iconst eX12_lawLine_98 ?_
          refine z_goto eX12_lawLine_99 (tgt := 103) rfl ?_
          refine z_is3 eX12_lawLine_103 (Nat.ne_of_beq_eq_false rfl) ?_
          refine z_al0 eX12_lawLine_104 hR.ne ?_
          refine z_rg (j := 12) lX12_25 eX12_lawLine_105 rfl hR rfl rfl ?_
          rw [pS_12]
          refine z_iconst eX12_lawLine_108 ?_
          refine z_icmp_eq (tgt := 113) eX12_lawLine_109 rfl ⟨⟨by omega, by omega⟩, ⟨by omega, by omega⟩⟩ (fun h109 => ?_) (fun h109 => ?_)
          · first | (have e := w113 k n 1 c hk0 hk1 (Or.inr rfl); exact e) | (have e : r.1 = 1 := (by omega); have e2 := w113 k n 1 r.2.1 hk0 hk1 (Or.inr rfl); rw [if_pos h109, h109, show r = (1, r.2.1, -1) from Prod.ext e (Prod.ext rfl h109)]; exact e2) | (have e : r.1 = 0 := (by omega); have e2 := w113 k n 0 r.2.1 hk0 hk1 (Or.inl rfl); rw [if_pos h109, h109, show r = (0, r.2.1, -1) from Prod.ext e (Prod.ext rfl h109)]; exact e2)
          · refine z_return eX12_lawLine_112 rfl ?_
            first | exact absurd rfl h109 | (rw [if_neg h109, wno]; exact ⟨rfl, rfl, rfl, rfl⟩)
    · rw [if_neg hf, wno]
      refine z_al0 eX12_lawLine_72 hR.ne ?_
      refine z_rg (j := 12) lX12_25 eX12_lawLine_73 rfl hR rfl rfl ?_
      rw [pS_12]
      refine z_iconst eX12_lawLine_76 ?_
      refine z_icmp_eq (tgt := 81) eX12_lawLine_77 rfl ⟨⟨by omega, by omega⟩, ⟨by omega, by omega⟩⟩ (fun h77 => absurd h77 hf) (fun h77 => ?_)
      refine z_return eX12_lawLine_80 rfl ?_
      exact ⟨rfl, rfl, rfl, rfl⟩
  have w55 : ∀ (k p : Int), 0 ≤ k → k ≤ 2 → 0 ≤ p → p ≤ σ 0 10 → zW G KX12_lawLine 63 (zR none lay (rC x (pS (zLw σ (qLw (qL1 (rT σ) (σ 0 10) A k p) (σ 0 17, σ 0 18, σ 0 19))) (qL1 (rT σ) (σ 0 10) A k p).2.2.2.1 (qL1 (rT σ) (σ 0 10) A k p).2.2.2.2) C0) nx) 55 [zP x, zI k, zU, zU] [] lay (rC x (pS σ p (-1)) C0) nx (0, 0) := by
    intro k p hk0 hk1 h0 h1
    unfold qL1
    have := qFig_bd (T := rT σ) (e := σ 0 10) (lo := 0) (hi := 20) (a := p) (f := -1) ⟨h0, h1, by decide, by omega⟩ he hT.p
    refine z_il1 eX12_lawLine_55 ?_
    refine z_iconst eX12_lawLine_56 ?_
    refine z_icmp_ne (tgt := 64) eX12_lawLine_57 rfl ⟨⟨by omega, by omega⟩, ⟨by omega, by omega⟩⟩ (fun h57 => ?_) (fun h57 => ?_)
    · refine z_al0 eX12_lawLine_64 hR.ne ?_
      refine z_iconst eX12_lawLine_65 ?_
      refine z_bipush eX12_lawLine_66 (by decide) ?_
      refine z_V2 eX12_lawLine_68 vX12_105 rfl rfl (Nat.le_of_ble_eq_true rfl) (Nat.le_of_ble_eq_true rfl) hR.x (p_X12_figures hR hT ⟨by omega, by omega⟩ ⟨by omega, by omega⟩ ⟨by omega, by omega⟩ ⟨by omega, by omega⟩) ?_
      refine z_is2 eX12_lawLine_71 (Nat.ne_of_beq_eq_false rfl) ?_
      first | (rw [if_pos h57]; exact w72 _ _ _ _ _ hk0 hk1 ⟨h0, h1, by decide, by omega⟩) | (rw [if_neg h57]; exact w72 _ _ _ _ _ hk0 hk1 this.1)
    · refine z_iconst eX12_lawLine_60 ?_
      refine z_goto eX12_lawLine_61 (tgt := 71) rfl ?_
      refine z_is2 eX12_lawLine_71 (Nat.ne_of_beq_eq_false rfl) ?_
      first | (rw [if_pos h57]; exact w72 _ _ _ _ _ hk0 hk1 ⟨h0, h1, by decide, by omega⟩) | (rw [if_neg h57]; exact w72 _ _ _ _ _ hk0 hk1 this.1)
  unfold qLine
  have hb := qskip_bd (T := rT σ) ha.2
  have hbb := qskip_idem (T := rT σ) (e := σ 0 10) (a := a)
  generalize hq : qscan qbl (rT σ) (σ 0 10) a = b at hb hbb ⊢
  refine z_al0 eX12_lawLine_0 hR.ne ?_
  refine z_ldcS (t := 59) eX12_lawLine_1 rfl rfl rfl (by rw [(hS 59 _ rfl).1]) ?_
  refine z_V1 eX12_lawLine_3 vX12_101 rfl rfl (Nat.le_of_ble_eq_true rfl) (Nat.le_of_ble_eq_true rfl) hR.x (p_has hR hS (t := 59) (w := qw_feel) (n := 4) rfl rfl hT ⟨by omega, by omega⟩ (b := b) (by first | exact hb | exact hbb | assumption)) ?_
  refine z_ifh_eq (tgt := 13) eX12_lawLine_6 rfl (fun h6 => ?_) (fun h6 => ?_)
  · rw [zif_f h6]
    refine z_al0 eX12_lawLine_13 hR.ne ?_
    refine z_ldcS (t := 60) eX12_lawLine_14 rfl rfl rfl (by rw [(hS 60 _ rfl).1]) ?_
    refine z_V1 eX12_lawLine_16 vX12_101 rfl rfl (Nat.le_of_ble_eq_true rfl) (Nat.le_of_ble_eq_true rfl) hR.x (p_has hR hS (t := 60) (w := qw_dull) (n := 4) rfl rfl hT ⟨by omega, by omega⟩ (b := b) (by first | exact hb | exact hbb | assumption)) ?_
    refine z_ifh_eq (tgt := 26) eX12_lawLine_19 rfl (fun h19 => ?_) (fun h19 => ?_)
    · rw [zif_f h19]
      refine z_al0 eX12_lawLine_26 hR.ne ?_
      refine z_ldcS (t := 61) eX12_lawLine_27 rfl rfl rfl (by rw [(hS 61 _ rfl).1]) ?_
      refine z_V1 eX12_lawLine_29 vX12_101 rfl rfl (Nat.le_of_ble_eq_true rfl) (Nat.le_of_ble_eq_true rfl) hR.x (p_has hR hS (t := 61) (w := qw_lapse) (n := 5) rfl rfl hT ⟨by omega, by omega⟩ (b := b) (by first | exact hb | exact hbb | assumption)) ?_
      refine z_ifh_eq (tgt := 39) eX12_lawLine_32 rfl (fun h32 => ?_) (fun h32 => ?_)
      · rw [zif_f h32]
        refine z_iconst eX12_lawLine_39 ?_
        refine z_is1 eX12_lawLine_40 (Nat.ne_of_beq_eq_false rfl) ?_
        refine z_il1 eX12_lawLine_41 ?_
        refine z_iconst eX12_lawLine_42 ?_
        refine z_icmp_ne (tgt := 55) eX12_lawLine_43 rfl ⟨⟨by omega, by omega⟩, ⟨by omega, by omega⟩⟩ (fun h43 => (by exfalso; omega)) (fun h43 => ?_)
        refine z_al0 eX12_lawLine_46 hR.ne ?_
        refine z_al0 eX12_lawLine_47 hR.ne ?_
        refine z_rg (j := 11) lX12_71 eX12_lawLine_48 rfl hR rfl rfl ?_
        rw [pS_11]
        refine z_V1v eX12_lawLine_51 vX12_97 rfl rfl (Nat.le_of_ble_eq_true rfl) (Nat.le_of_ble_eq_true rfl) hR.x (p_X12_wrong hR ⟨by omega, by omega⟩) ?_
        rw [if_pos rfl, wno]
        refine z_return eX12_lawLine_54 rfl ?_
        exact ⟨rfl, rfl, rfl, rfl⟩
      · rw [zif_t h32]
        refine z_iconst eX12_lawLine_35 ?_
        refine z_goto eX12_lawLine_36 (tgt := 40) rfl ?_
        refine z_is1 eX12_lawLine_40 (Nat.ne_of_beq_eq_false rfl) ?_
        refine z_il1 eX12_lawLine_41 ?_
        refine z_iconst eX12_lawLine_42 ?_
        refine z_icmp_ne (tgt := 55) eX12_lawLine_43 rfl ⟨⟨by omega, by omega⟩, ⟨by omega, by omega⟩⟩ (fun h43 => ?_) (fun h43 => (by exfalso; omega))
        first | (have e3 := h32; exact w55 2 (b + 5) (by decide) (by decide) (by omega) (qhas_bd e3 hb.2)) | (have e3 := h19; exact w55 1 (b + 4) (by decide) (by decide) (by omega) (qhas_bd e3 hb.2)) | (have e3 := h6; exact w55 0 (b + 4) (by decide) (by decide) (by omega) (qhas_bd e3 hb.2))
    · rw [zif_t h19]
      refine z_iconst eX12_lawLine_22 ?_
      refine z_goto eX12_lawLine_23 (tgt := 40) rfl ?_
      refine z_is1 eX12_lawLine_40 (Nat.ne_of_beq_eq_false rfl) ?_
      refine z_il1 eX12_lawLine_41 ?_
      refine z_iconst eX12_lawLine_42 ?_
      refine z_icmp_ne (tgt := 55) eX12_lawLine_43 rfl ⟨⟨by omega, by omega⟩, ⟨by omega, by omega⟩⟩ (fun h43 => ?_) (fun h43 => (by exfalso; omega))
      first | (have e3 := h32; exact w55 2 (b + 5) (by decide) (by decide) (by omega) (qhas_bd e3 hb.2)) | (have e3 := h19; exact w55 1 (b + 4) (by decide) (by decide) (by omega) (qhas_bd e3 hb.2)) | (have e3 := h6; exact w55 0 (b + 4) (by decide) (by decide) (by omega) (qhas_bd e3 hb.2))
  · rw [zif_t h6]
    refine z_iconst eX12_lawLine_9 ?_
    refine z_goto eX12_lawLine_10 (tgt := 40) rfl ?_
    refine z_is1 eX12_lawLine_40 (Nat.ne_of_beq_eq_false rfl) ?_
    refine z_il1 eX12_lawLine_41 ?_
    refine z_iconst eX12_lawLine_42 ?_
    refine z_icmp_ne (tgt := 55) eX12_lawLine_43 rfl ⟨⟨by omega, by omega⟩, ⟨by omega, by omega⟩⟩ (fun h43 => ?_) (fun h43 => (by exfalso; omega))
    first | (have e3 := h32; exact w55 2 (b + 5) (by decide) (by decide) (by omega) (qhas_bd e3 hb.2)) | (have e3 := h19; exact w55 1 (b + 4) (by decide) (by decide) (by omega) (qhas_bd e3 hb.2)) | (have e3 := h6; exact w55 0 (b + 4) (by decide) (by decide) (by omega) (qhas_bd e3 hb.2))
