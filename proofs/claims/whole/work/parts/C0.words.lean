/-! Words: a text, thing by thing. -/
def zWd (σ : zMem) (w f b s k : Int) : zMem := fun o j => if o = w ∧ j = 0 then f else if o = w ∧ j = 3 then b else if o = w ∧ j = 4 then s else if o = w ∧ j = 5 then k else σ o j
theorem zWd_0 {σ : zMem} {w f b s k : Int} : zWd σ w f b s k w 0 = f := by simp [zWd]
theorem zWd_1 {σ : zMem} {w f b s k : Int} : zWd σ w f b s k w 1 = σ w 1 := by simp [zWd]
theorem zWd_2 {σ : zMem} {w f b s k : Int} : zWd σ w f b s k w 2 = σ w 2 := by simp [zWd]
theorem zWd_3 {σ : zMem} {w f b s k : Int} : zWd σ w f b s k w 3 = b := by simp [zWd]
theorem zWd_4 {σ : zMem} {w f b s k : Int} : zWd σ w f b s k w 4 = s := by simp [zWd]
theorem zWd_5 {σ : zMem} {w f b s k : Int} : zWd σ w f b s k w 5 = k := by simp [zWd]
theorem zWd_o {σ : zMem} {w f b s k o : Int} (h : o ≠ w) : zWd σ w f b s k o = σ o := by funext j; simp [zWd, h]
theorem zWd_s0 {σ : zMem} {w f b s k v : Int} : zset (zWd σ w f b s k) w 0 v = zWd σ w v b s k := by
  funext o j
  simp only [zset_at, zWd]
  by_cases h : o = w ∧ j = 0
  · rw [if_pos h, if_pos h]
  · rw [if_neg h, if_neg h, if_neg h]
theorem zWd_s3 {σ : zMem} {w f b s k v : Int} : zset (zWd σ w f b s k) w 3 v = zWd σ w f v s k := by
  funext o j
  simp only [zset_at, zWd]
  by_cases h : o = w ∧ j = 3
  · rw [if_pos h, if_neg (by omega), if_pos h]
  · rw [if_neg h]; simp only [if_neg h]
theorem zWd_s4 {σ : zMem} {w f b s k v : Int} : zset (zWd σ w f b s k) w 4 v = zWd σ w f b v k := by
  funext o j
  simp only [zset_at, zWd]
  by_cases h : o = w ∧ j = 4
  · rw [if_pos h, if_neg (by omega), if_neg (by omega), if_pos h]
  · rw [if_neg h]; simp only [if_neg h]
theorem zWd_s5 {σ : zMem} {w f b s k v : Int} : zset (zWd σ w f b s k) w 5 v = zWd σ w f b s v := by
  funext o j
  simp only [zset_at, zWd]
  by_cases h : o = w ∧ j = 5
  · rw [if_pos h, if_neg (by omega), if_neg (by omega), if_neg (by omega), if_pos h]
  · rw [if_neg h]; simp only [if_neg h]
theorem zWd_so {σ : zMem} {w f b s k o j v : Int} (h : o ≠ w) : zset (zWd σ w f b s k) o j v = zWd (zset σ o j v) w f b s k := by
  funext o' j'
  simp only [zset_at, zWd]
  by_cases h2 : o' = o ∧ j' = j
  · rw [if_pos h2, if_neg (by omega), if_neg (by omega), if_neg (by omega), if_neg (by omega), if_pos h2]
  · rw [if_neg h2]; simp only [if_neg h2]
theorem zWd_zWd {σ : zMem} {w f b s k f' b' s' k' : Int} : zWd (zWd σ w f b s k) w f' b' s' k' = zWd σ w f' b' s' k' := by
  funext o j
  simp only [zWd]
  by_cases h0 : o = w ∧ j = 0
  · simp only [if_pos h0]
  · simp only [if_neg h0]
    by_cases h3 : o = w ∧ j = 3
    · simp only [if_pos h3]
    · simp only [if_neg h3]
      by_cases h4 : o = w ∧ j = 4
      · simp only [if_pos h4]
      · simp only [if_neg h4]
        by_cases h5 : o = w ∧ j = 5
        · simp only [if_pos h5]
        · simp only [if_neg h5]
theorem zWd_self {σ : zMem} {w : Int} : zWd σ w (σ w 0) (σ w 3) (σ w 4) (σ w 5) = σ := by
  funext o j
  simp only [zWd]
  by_cases h0 : o = w ∧ j = 0
  · rw [if_pos h0, h0.1, h0.2]
  · rw [if_neg h0]
    by_cases h3 : o = w ∧ j = 3
    · rw [if_pos h3, h3.1, h3.2]
    · rw [if_neg h3]
      by_cases h4 : o = w ∧ j = 4
      · rw [if_pos h4, h4.1, h4.2]
      · rw [if_neg h4]
        by_cases h5 : o = w ∧ j = 5
        · rw [if_pos h5, h5.1, h5.2]
        · rw [if_neg h5]
def qStop (T : Int → Int) (e b : Int) : Int := if b < e then (if qlet (T b) = true then qscan qlet T e (b + 1) else if qdig (T b) = true then qscan qdig T e (b + 1) else b + 1) else b
def qKind (T : Int → Int) (e b : Int) : Int := if b < e then (if qlet (T b) = true then 1 else if qdig (T b) = true then 2 else 3) else 0
/-- at the thing behind place a, the fault f -/
def zTk (σ : zMem) (w : Int) (T : Int → Int) (e a f : Int) : zMem := zWd σ w f (qscan qbl T e a) (qStop T e (qscan qbl T e a)) (qKind T e (qscan qbl T e a))
/-- the text is the tape's first e bytes -/
def TxC (x : Int) (σ : zMem) (w : Int) (T : Int → Int) (e : Int) : Prop := (σ w 1 = x + (0 + 1)) ∧ (σ w 2 = e) ∧ (0 ≤ e ∧ e ≤ 400) ∧ (∀ i, 0 ≤ i → i < e → σ (0 + 1) i = T i) ∧ (∀ i, 0 ≤ i → i < 400 → 0 ≤ T i ∧ T i ≤ 255) ∧ (w = 274 ∨ w = 295)
theorem TxC.pt {x : Int} {σ : zMem} {w : Int} {T : Int → Int} {e : Int} (h : TxC x σ w T e) : σ w 1 = x + (0 + 1) := h.1
theorem TxC.ln {x : Int} {σ : zMem} {w : Int} {T : Int → Int} {e : Int} (h : TxC x σ w T e) : σ w 2 = e := h.2.1
theorem TxC.e0 {x : Int} {σ : zMem} {w : Int} {T : Int → Int} {e : Int} (h : TxC x σ w T e) : 0 ≤ e ∧ e ≤ 400 := h.2.2.1
theorem TxC.tx {x : Int} {σ : zMem} {w : Int} {T : Int → Int} {e : Int} (h : TxC x σ w T e) : ∀ i, 0 ≤ i → i < e → σ (0 + 1) i = T i := h.2.2.2.1
theorem TxC.bt {x : Int} {σ : zMem} {w : Int} {T : Int → Int} {e : Int} (h : TxC x σ w T e) : ∀ i, 0 ≤ i → i < 400 → 0 ≤ T i ∧ T i ≤ 255 := h.2.2.2.2.1
theorem TxC.w1 {x : Int} {σ : zMem} {w : Int} {T : Int → Int} {e : Int} (h : TxC x σ w T e) : w = 274 ∨ w = 295 := h.2.2.2.2.2
theorem TxC.ne {x : Int} {σ : zMem} {w : Int} {T : Int → Int} {e : Int} (h : TxC x σ w T e) : (0 : Int) + 1 ≠ w := by rcases h.w1 with q | q <;> rw [q] <;> decide
theorem TxC.A {x : Int} {σ : zMem} {w : Int} {T : Int → Int} {e : Int} (h : TxC x σ w T e) : WdAt w := by
  rcases h.w1 with q | q <;> rw [q]
  · exact WdAt.a
  · exact WdAt.b
theorem qlet_t {c : Int} (h : 97 ≤ c) (h2 : c ≤ 122) : qlet c = true := by unfold qlet; rw [decide_eq_true_iff]; exact ⟨h, h2⟩
theorem qlet_f {c : Int} (h : c < 97 ∨ 122 < c) : ¬ qlet c = true := by unfold qlet; rw [decide_eq_true_iff]; omega
theorem qdig_t {c : Int} (h : 48 ≤ c) (h2 : c ≤ 57) : qdig c = true := by unfold qdig; rw [decide_eq_true_iff]; exact ⟨h, h2⟩
theorem qdig_f {c : Int} (h : c < 48 ∨ 57 < c) : ¬ qdig c = true := by unfold qdig; rw [decide_eq_true_iff]; omega
theorem qbl_t {c : Int} (h : c = 32) : qbl c = true := by unfold qbl; rw [decide_eq_true_iff]; exact h
theorem qbl_f {c : Int} (h : c ≠ 32) : ¬ qbl c = true := by unfold qbl; rw [decide_eq_true_iff]; exact h
theorem c_X10_advance {G : zG} {lay : zLay} {σ C0 : zMem} {nx x w : Int} (hT : TopL lay x) {T : Int → Int} {e f b s k : Int} (hX : TxC x σ w T e) (hs : 0 ≤ s ∧ s ≤ e) : zMM G 1 KX10_advance [zP (x + w)] lay (tC x (zWd σ w f b s k) C0) nx (0, 0) (zR none lay (tC x (zTk σ w T e s f) C0) nx) := by
  refine z_met' (L := [zP (x + w), zU, zU, zU, zU, zU]) gX10_advance.1 rfl rfl (Nat.le_of_ble_eq_true rfl) rfl ?_
  have hA := hX.A
  have hx := hT.1
  have hw := hX.w1
  have hne : x + w ≠ -1 := by omega
  have he := hX.e0
  have hnw := hX.ne
  obtain ⟨Q, hQ⟩ : ∃ Q, zR none lay (tC x (zTk σ w T e s f) C0) nx = Q := ⟨_, rfl⟩
  have hbd := qscan_bd (P := qbl) (T := T) (e := e) (k := s)
  have hbd2 := hbd.2 hs.2
  have w174 : ∀ (P : Int → Bool) (lo hi kk : Int), (∀ c, P c = true ↔ lo ≤ c ∧ c ≤ hi) → (0 ≤ lo ∧ lo ≤ 255) → (0 ≤ hi ∧ hi ≤ 255) → (kk = 1 ∨ kk = 2) → ∀ (n : Nat) (t : Int) (y1 y2 y3 : zAV), (e - t).toNat = n → 0 ≤ t → t ≤ e → Q (.inl none) lay (tC x (zWd σ w f (qscan qbl T e s) (qscan P T e t) kk) C0) nx → zW G KX10_advance 1 Q 174 [zP (x + w), y1, y2, y3, zI lo, zI hi] [] lay (tC x (zWd σ w f (qscan qbl T e s) t kk) C0) nx (0, 0) := by
    intro P lo hi kk hP hlo hhi hkk n
    induction n with
    | zero =>
      intro t y1 y2 y3 hn t0 t1 hq
      rw [qscan_ge (P := P) (k := t) (by omega)] at hq
      refine z_al0 eX10_advance_174 hne ?_
      first | refine z_tg0 (j := 5) lX10_40 eX10_advance_175 rfl hT hA (by decide) rfl rfl rfl ?_ | refine z_tg (j := 5) lX10_40 eX10_advance_175 rfl hT hA ⟨by decide, by decide⟩ rfl rfl rfl ?_
      first | rw [zWd_0] | rw [zWd_2, hX.ln] | rw [zWd_3] | rw [zWd_4] | rw [zWd_5] | skip
      refine z_iconst eX10_advance_178 ?_
      refine z_icmp_eq (tgt := 234) eX10_advance_179 rfl ⟨⟨by omega, by omega⟩, ⟨by omega, by omega⟩⟩ (fun h179 => (by exfalso; omega)) (fun h179 => ?_)
      refine z_al0 eX10_advance_182 hne ?_
      first | refine z_tg0 (j := 4) lX10_31 eX10_advance_183 rfl hT hA (by decide) rfl rfl rfl ?_ | refine z_tg (j := 4) lX10_31 eX10_advance_183 rfl hT hA ⟨by decide, by decide⟩ rfl rfl rfl ?_
      first | rw [zWd_0] | rw [zWd_2, hX.ln] | rw [zWd_3] | rw [zWd_4] | rw [zWd_5] | skip
      refine z_al0 eX10_advance_186 hne ?_
      first | refine z_tg0 (j := 2) lX10_28 eX10_advance_187 rfl hT hA (by decide) rfl rfl rfl ?_ | refine z_tg (j := 2) lX10_28 eX10_advance_187 rfl hT hA ⟨by decide, by decide⟩ rfl rfl rfl ?_
      first | rw [zWd_0] | rw [zWd_2, hX.ln] | rw [zWd_3] | rw [zWd_4] | rw [zWd_5] | skip
      refine z_icmp_ge (tgt := 234) eX10_advance_190 rfl ⟨⟨by omega, by omega⟩, ⟨by omega, by omega⟩⟩ (fun h190 => ?_) (fun h190 => (by exfalso; omega))
      refine z_return eX10_advance_234 rfl ?_
      exact hq
    | succ n ih =>
      intro t y1 y2 y3 hn t0 t1 hq
      have hb := hX.bt t t0 (by omega)
      have hp := hP (T t)
      have hy : P (T t) = true → Q (.inl none) lay (tC x (zWd σ w f (qscan qbl T e s) (qscan P T e (t + 1)) kk) C0) nx := fun z => by rw [qscan_t (by omega) z] at hq; exact hq
      have hno : ¬ P (T t) = true → Q (.inl none) lay (tC x (zWd σ w f (qscan qbl T e s) t kk) C0) nx := fun z => by rw [qscan_f (by omega) z] at hq; exact hq
      refine z_al0 eX10_advance_174 hne ?_
      first | refine z_tg0 (j := 5) lX10_40 eX10_advance_175 rfl hT hA (by decide) rfl rfl rfl ?_ | refine z_tg (j := 5) lX10_40 eX10_advance_175 rfl hT hA ⟨by decide, by decide⟩ rfl rfl rfl ?_
      first | rw [zWd_0] | rw [zWd_1, hX.pt] | rw [zWd_2, hX.ln] | rw [zWd_3] | rw [zWd_4] | rw [zWd_5] | skip
      refine z_iconst eX10_advance_178 ?_
      refine z_icmp_eq (tgt := 234) eX10_advance_179 rfl ⟨⟨by omega, by omega⟩, ⟨by omega, by omega⟩⟩ (fun h179 => (by exfalso; omega)) (fun h179 => ?_)
      refine z_al0 eX10_advance_182 hne ?_
      first | refine z_tg0 (j := 4) lX10_31 eX10_advance_183 rfl hT hA (by decide) rfl rfl rfl ?_ | refine z_tg (j := 4) lX10_31 eX10_advance_183 rfl hT hA ⟨by decide, by decide⟩ rfl rfl rfl ?_
      first | rw [zWd_0] | rw [zWd_1, hX.pt] | rw [zWd_2, hX.ln] | rw [zWd_3] | rw [zWd_4] | rw [zWd_5] | skip
      refine z_al0 eX10_advance_186 hne ?_
      first | refine z_tg0 (j := 2) lX10_28 eX10_advance_187 rfl hT hA (by decide) rfl rfl rfl ?_ | refine z_tg (j := 2) lX10_28 eX10_advance_187 rfl hT hA ⟨by decide, by decide⟩ rfl rfl rfl ?_
      first | rw [zWd_0] | rw [zWd_1, hX.pt] | rw [zWd_2, hX.ln] | rw [zWd_3] | rw [zWd_4] | rw [zWd_5] | skip
      refine z_icmp_ge (tgt := 234) eX10_advance_190 rfl ⟨⟨by omega, by omega⟩, ⟨by omega, by omega⟩⟩ (fun h190 => (by exfalso; omega)) (fun h190 => ?_)
      refine z_al0 eX10_advance_193 hne ?_
      first | refine z_td0 (j := 1) lX10_15 eX10_advance_194 rfl hT hA (by decide) rfl rfl rfl ?_ | refine z_td (j := 1) lX10_15 eX10_advance_194 rfl hT hA ⟨by decide, by decide⟩ rfl rfl rfl ?_
      first | rw [zWd_0] | rw [zWd_1, hX.pt] | rw [zWd_2, hX.ln] | rw [zWd_3] | rw [zWd_4] | rw [zWd_5] | skip
      refine z_al0 eX10_advance_197 hne ?_
      first | refine z_tg0 (j := 4) lX10_31 eX10_advance_198 rfl hT hA (by decide) rfl rfl rfl ?_ | refine z_tg (j := 4) lX10_31 eX10_advance_198 rfl hT hA ⟨by decide, by decide⟩ rfl rfl rfl ?_
      first | rw [zWd_0] | rw [zWd_1, hX.pt] | rw [zWd_2, hX.ln] | rw [zWd_3] | rw [zWd_4] | rw [zWd_5] | skip
      refine z_tl eX10_advance_201 hT TpAt ⟨by decide, by decide⟩ rfl rfl ⟨by omega, by omega⟩ ?_
      rw [zWd_o hnw, hX.tx t t0 (by omega)]
      first | rw [zWd_0] | rw [zWd_1, hX.pt] | rw [zWd_2, hX.ln] | rw [zWd_3] | rw [zWd_4] | rw [zWd_5] | skip
      refine z_il4 eX10_advance_202 ?_
      refine z_icmp_lt (tgt := 234) eX10_advance_204 rfl ⟨⟨by omega, by omega⟩, ⟨by omega, by omega⟩⟩ (fun h204 => ?_) (fun h204 => ?_)
      · refine z_return eX10_advance_234 rfl ?_
        exact hno (fun z => by have := hp.mp z; omega)
      · refine z_al0 eX10_advance_207 hne ?_
        first | refine z_td0 (j := 1) lX10_15 eX10_advance_208 rfl hT hA (by decide) rfl rfl rfl ?_ | refine z_td (j := 1) lX10_15 eX10_advance_208 rfl hT hA ⟨by decide, by decide⟩ rfl rfl rfl ?_
        first | rw [zWd_0] | rw [zWd_1, hX.pt] | rw [zWd_2, hX.ln] | rw [zWd_3] | rw [zWd_4] | rw [zWd_5] | skip
        refine z_al0 eX10_advance_211 hne ?_
        first | refine z_tg0 (j := 4) lX10_31 eX10_advance_212 rfl hT hA (by decide) rfl rfl rfl ?_ | refine z_tg (j := 4) lX10_31 eX10_advance_212 rfl hT hA ⟨by decide, by decide⟩ rfl rfl rfl ?_
        first | rw [zWd_0] | rw [zWd_1, hX.pt] | rw [zWd_2, hX.ln] | rw [zWd_3] | rw [zWd_4] | rw [zWd_5] | skip
        refine z_tl eX10_advance_215 hT TpAt ⟨by decide, by decide⟩ rfl rfl ⟨by omega, by omega⟩ ?_
        rw [zWd_o hnw, hX.tx t t0 (by omega)]
        first | rw [zWd_0] | rw [zWd_1, hX.pt] | rw [zWd_2, hX.ln] | rw [zWd_3] | rw [zWd_4] | rw [zWd_5] | skip
        refine z_il5 eX10_advance_216 ?_
        refine z_icmp_gt (tgt := 234) eX10_advance_218 rfl ⟨⟨by omega, by omega⟩, ⟨by omega, by omega⟩⟩ (fun h218 => ?_) (fun h218 => ?_)
        · refine z_return eX10_advance_234 rfl ?_
          exact hno (fun z => by have := hp.mp z; omega)
        · refine z_al0 eX10_advance_221 hne ?_
          refine z_dup eX10_advance_222 (Nat.ne_of_beq_eq_false rfl) ?_
          first | refine z_tg0 (j := 4) lX10_31 eX10_advance_223 rfl hT hA (by decide) rfl rfl rfl ?_ | refine z_tg (j := 4) lX10_31 eX10_advance_223 rfl hT hA ⟨by decide, by decide⟩ rfl rfl rfl ?_
          first | rw [zWd_0] | rw [zWd_1, hX.pt] | rw [zWd_2, hX.ln] | rw [zWd_3] | rw [zWd_4] | rw [zWd_5] | skip
          refine z_iconst eX10_advance_226 ?_
          refine z_iadd eX10_advance_227 ?_
          first | refine z_tp0 (j := 4) lX10_31 eX10_advance_228 rfl hT hA (by decide) rfl rfl rfl ?_ | refine z_tp (j := 4) lX10_31 eX10_advance_228 rfl hT hA ⟨by decide, by decide⟩ rfl rfl rfl ?_
          rw [zWd_s4]
          refine z_goto eX10_advance_231 (tgt := 174) rfl ?_
          exact ih (t + 1) _ _ _ (by omega) (by omega) (by omega) (hy (hp.mpr ⟨by omega, by omega⟩))
  have w46 : zW G KX10_advance 1 Q 46 [zP (x + w), zU, zU, zU, zU, zU] [] lay (tC x (zWd σ w f (qscan qbl T e s) s k) C0) nx (0, 0) := by
    have hfin : Q (.inl none) lay (tC x (zWd σ w f (qscan qbl T e s) (qStop T e (qscan qbl T e s)) (qKind T e (qscan qbl T e s))) C0) nx := by rw [← hQ]; exact ⟨rfl, rfl, rfl, rfl⟩
    clear hQ
    generalize qscan qbl T e s = b0 at hbd hbd2 hfin w174 ⊢
    by_cases hb : b0 < e
    · have hbt := hX.bt b0 (by omega) (by omega)
      unfold qStop qKind at hfin
      rw [if_pos hb, if_pos hb] at hfin
      have fl : 97 ≤ T b0 → T b0 ≤ 122 → Q (.inl none) lay (tC x (zWd σ w f b0 (qscan qlet T e (b0 + 1)) 1) C0) nx := fun z z2 => by rw [if_pos (qlet_t z z2), if_pos (qlet_t z z2)] at hfin; exact hfin
      have fd : 48 ≤ T b0 → T b0 ≤ 57 → Q (.inl none) lay (tC x (zWd σ w f b0 (qscan qdig T e (b0 + 1)) 2) C0) nx := fun z z2 => by rw [if_neg (qlet_f (by omega)), if_neg (qlet_f (by omega)), if_pos (qdig_t z z2), if_pos (qdig_t z z2)] at hfin; exact hfin
      have fs : (T b0 < 97 ∨ 122 < T b0) → (T b0 < 48 ∨ 57 < T b0) → Q (.inl none) lay (tC x (zWd σ w f b0 (b0 + 1) 3) C0) nx := fun z z2 => by rw [if_neg (qlet_f z), if_neg (qlet_f z), if_neg (qdig_f z2), if_neg (qdig_f z2)] at hfin; exact hfin
      have hl : ∀ c, qlet c = true ↔ 97 ≤ c ∧ c ≤ 122 := fun c => by unfold qlet; rw [decide_eq_true_iff]
      have hd : ∀ c, qdig c = true ↔ 48 ≤ c ∧ c ≤ 57 := fun c => by unfold qdig; rw [decide_eq_true_iff]
      have w127 : ∀ (iL iD : Int), (iL = 1 ∧ 97 ≤ T b0 ∧ T b0 ≤ 122 ∧ iD = 0) ∨ (iL = 0 ∧ (T b0 < 97 ∨ 122 < T b0) ∧ (iD = 1 ∧ 48 ≤ T b0 ∧ T b0 ≤ 57 ∨ iD = 0 ∧ (T b0 < 48 ∨ 57 < T b0))) → zW G KX10_advance 1 Q 127 [zP (x + w), zI (T b0), zI iL, zI iD, zU, zU] [] lay (tC x (zWd σ w f b0 (b0 + 1) 0) C0) nx (0, 0) := by
        intro iL iD hi
        rcases hi with ⟨i1, i2, i3, i4⟩ | ⟨i1, i2, ⟨i3, i4, i5⟩ | ⟨i3, i4⟩⟩ <;> subst i1
        · subst i4
          refine z_al0 eX10_advance_127 hne ?_
          refine z_il2 eX10_advance_128 ?_
          refine z_if_eq (tgt := 136) eX10_advance_129 rfl ⟨by omega, by omega⟩ (fun h129 => (by exfalso; omega)) (fun h129 => ?_)
          refine z_iconst eX10_advance_132 ?_
          refine z_goto eX10_advance_133 (tgt := 145) rfl ?_
          first | refine z_tp0 (j := 5) lX10_40 eX10_advance_145 rfl hT hA (by decide) rfl rfl rfl ?_ | refine z_tp (j := 5) lX10_40 eX10_advance_145 rfl hT hA ⟨by decide, by decide⟩ rfl rfl rfl ?_
          rw [zWd_s5]
          refine z_il2 eX10_advance_148 ?_
          refine z_if_eq (tgt := 157) eX10_advance_149 rfl ⟨by omega, by omega⟩ (fun h149 => (by exfalso; omega)) (fun h149 => ?_)
          refine z_bipush eX10_advance_152 (by decide) ?_
          refine z_goto eX10_advance_154 (tgt := 159) rfl ?_
          refine z_is4 eX10_advance_159 (Nat.ne_of_beq_eq_false rfl) ?_
          refine z_il2 eX10_advance_161 ?_
          refine z_if_eq (tgt := 170) eX10_advance_162 rfl ⟨by omega, by omega⟩ (fun h162 => (by exfalso; omega)) (fun h162 => ?_)
          refine z_bipush eX10_advance_165 (by decide) ?_
          refine z_goto eX10_advance_167 (tgt := 172) rfl ?_
          refine z_is5 eX10_advance_172 (Nat.ne_of_beq_eq_false rfl) ?_
          exact w174 qlet 97 122 1 hl (by decide) (by decide) (Or.inl rfl) _ (b0 + 1) _ _ _ rfl (by omega) (by omega) (fl i2 i3)
        · subst i3
          refine z_al0 eX10_advance_127 hne ?_
          refine z_il2 eX10_advance_128 ?_
          refine z_if_eq (tgt := 136) eX10_advance_129 rfl ⟨by omega, by omega⟩ (fun h129 => ?_) (fun h129 => (by exfalso; omega))
          refine z_il3 eX10_advance_136 ?_
          refine z_if_eq (tgt := 144) eX10_advance_137 rfl ⟨by omega, by omega⟩ (fun h137 => (by exfalso; omega)) (fun h137 => ?_)
          refine z_iconst eX10_advance_140 ?_
          refine z_goto eX10_advance_141 (tgt := 145) rfl ?_
          first | refine z_tp0 (j := 5) lX10_40 eX10_advance_145 rfl hT hA (by decide) rfl rfl rfl ?_ | refine z_tp (j := 5) lX10_40 eX10_advance_145 rfl hT hA ⟨by decide, by decide⟩ rfl rfl rfl ?_
          rw [zWd_s5]
          refine z_il2 eX10_advance_148 ?_
          refine z_if_eq (tgt := 157) eX10_advance_149 rfl ⟨by omega, by omega⟩ (fun h149 => ?_) (fun h149 => (by exfalso; omega))
          refine z_bipush eX10_advance_157 (by decide) ?_
          refine z_is4 eX10_advance_159 (Nat.ne_of_beq_eq_false rfl) ?_
          refine z_il2 eX10_advance_161 ?_
          refine z_if_eq (tgt := 170) eX10_advance_162 rfl ⟨by omega, by omega⟩ (fun h162 => ?_) (fun h162 => (by exfalso; omega))
          refine z_bipush eX10_advance_170 (by decide) ?_
          refine z_is5 eX10_advance_172 (Nat.ne_of_beq_eq_false rfl) ?_
          exact w174 qdig 48 57 2 hd (by decide) (by decide) (Or.inr rfl) _ (b0 + 1) _ _ _ rfl (by omega) (by omega) (fd i4 i5)
        · subst i3
          refine z_al0 eX10_advance_127 hne ?_
          refine z_il2 eX10_advance_128 ?_
          refine z_if_eq (tgt := 136) eX10_advance_129 rfl ⟨by omega, by omega⟩ (fun h129 => ?_) (fun h129 => (by exfalso; omega))
          refine z_il3 eX10_advance_136 ?_
          refine z_if_eq (tgt := 144) eX10_advance_137 rfl ⟨by omega, by omega⟩ (fun h137 => ?_) (fun h137 => (by exfalso; omega))
          refine z_iconst eX10_advance_144 ?_
          first | refine z_tp0 (j := 5) lX10_40 eX10_advance_145 rfl hT hA (by decide) rfl rfl rfl ?_ | refine z_tp (j := 5) lX10_40 eX10_advance_145 rfl hT hA ⟨by decide, by decide⟩ rfl rfl rfl ?_
          rw [zWd_s5]
          refine z_il2 eX10_advance_148 ?_
          refine z_if_eq (tgt := 157) eX10_advance_149 rfl ⟨by omega, by omega⟩ (fun h149 => ?_) (fun h149 => (by exfalso; omega))
          refine z_bipush eX10_advance_157 (by decide) ?_
          refine z_is4 eX10_advance_159 (Nat.ne_of_beq_eq_false rfl) ?_
          refine z_il2 eX10_advance_161 ?_
          refine z_if_eq (tgt := 170) eX10_advance_162 rfl ⟨by omega, by omega⟩ (fun h162 => ?_) (fun h162 => (by exfalso; omega))
          refine z_bipush eX10_advance_170 (by decide) ?_
          refine z_is5 eX10_advance_172 (Nat.ne_of_beq_eq_false rfl) ?_
          refine z_al0 eX10_advance_174 hne ?_
          first | refine z_tg0 (j := 5) lX10_40 eX10_advance_175 rfl hT hA (by decide) rfl rfl rfl ?_ | refine z_tg (j := 5) lX10_40 eX10_advance_175 rfl hT hA ⟨by decide, by decide⟩ rfl rfl rfl ?_
          first | rw [zWd_5] | skip
          refine z_iconst eX10_advance_178 ?_
          refine z_icmp_eq (tgt := 234) eX10_advance_179 rfl ⟨⟨by omega, by omega⟩, ⟨by omega, by omega⟩⟩ (fun h179 => ?_) (fun h179 => (by exfalso; omega))
          refine z_return eX10_advance_234 rfl ?_
          exact fs i2 i4
      refine z_al0 eX10_advance_46 hne ?_
      refine z_al0 eX10_advance_47 hne ?_
      first | refine z_tg0 (j := 3) lX10_37 eX10_advance_48 rfl hT hA (by decide) rfl rfl rfl ?_ | refine z_tg (j := 3) lX10_37 eX10_advance_48 rfl hT hA ⟨by decide, by decide⟩ rfl rfl rfl ?_
      first | rw [zWd_0] | rw [zWd_1, hX.pt] | rw [zWd_2, hX.ln] | rw [zWd_3] | rw [zWd_4] | rw [zWd_5] | skip
      first | refine z_tp0 (j := 4) lX10_31 eX10_advance_51 rfl hT hA (by decide) rfl rfl rfl ?_ | refine z_tp (j := 4) lX10_31 eX10_advance_51 rfl hT hA ⟨by decide, by decide⟩ rfl rfl rfl ?_
      first | rw [zWd_s4] | rw [zWd_s5]
      refine z_al0 eX10_advance_54 hne ?_
      refine z_iconst eX10_advance_55 ?_
      first | refine z_tp0 (j := 5) lX10_40 eX10_advance_56 rfl hT hA (by decide) rfl rfl rfl ?_ | refine z_tp (j := 5) lX10_40 eX10_advance_56 rfl hT hA ⟨by decide, by decide⟩ rfl rfl rfl ?_
      first | rw [zWd_s4] | rw [zWd_s5]
      refine z_al0 eX10_advance_59 hne ?_
      first | refine z_tg0 (j := 3) lX10_37 eX10_advance_60 rfl hT hA (by decide) rfl rfl rfl ?_ | refine z_tg (j := 3) lX10_37 eX10_advance_60 rfl hT hA ⟨by decide, by decide⟩ rfl rfl rfl ?_
      first | rw [zWd_0] | rw [zWd_1, hX.pt] | rw [zWd_2, hX.ln] | rw [zWd_3] | rw [zWd_4] | rw [zWd_5] | skip
      refine z_al0 eX10_advance_63 hne ?_
      first | refine z_tg0 (j := 2) lX10_28 eX10_advance_64 rfl hT hA (by decide) rfl rfl rfl ?_ | refine z_tg (j := 2) lX10_28 eX10_advance_64 rfl hT hA ⟨by decide, by decide⟩ rfl rfl rfl ?_
      first | rw [zWd_0] | rw [zWd_1, hX.pt] | rw [zWd_2, hX.ln] | rw [zWd_3] | rw [zWd_4] | rw [zWd_5] | skip
      refine z_icmp_lt (tgt := 71) eX10_advance_67 rfl ⟨⟨by omega, by omega⟩, ⟨by omega, by omega⟩⟩ (fun h67 => ?_) (fun h67 => (by exfalso; omega))
      refine z_al0 eX10_advance_71 hne ?_
      refine z_dup eX10_advance_72 (Nat.ne_of_beq_eq_false rfl) ?_
      first | refine z_tg0 (j := 4) lX10_31 eX10_advance_73 rfl hT hA (by decide) rfl rfl rfl ?_ | refine z_tg (j := 4) lX10_31 eX10_advance_73 rfl hT hA ⟨by decide, by decide⟩ rfl rfl rfl ?_
      first | rw [zWd_0] | rw [zWd_1, hX.pt] | rw [zWd_2, hX.ln] | rw [zWd_3] | rw [zWd_4] | rw [zWd_5] | skip
      refine z_iconst eX10_advance_76 ?_
      refine z_iadd eX10_advance_77 ?_
      first | refine z_tp0 (j := 4) lX10_31 eX10_advance_78 rfl hT hA (by decide) rfl rfl rfl ?_ | refine z_tp (j := 4) lX10_31 eX10_advance_78 rfl hT hA ⟨by decide, by decide⟩ rfl rfl rfl ?_
      first | rw [zWd_s4] | rw [zWd_s5]
      refine z_al0 eX10_advance_81 hne ?_
      first | refine z_td0 (j := 1) lX10_15 eX10_advance_82 rfl hT hA (by decide) rfl rfl rfl ?_ | refine z_td (j := 1) lX10_15 eX10_advance_82 rfl hT hA ⟨by decide, by decide⟩ rfl rfl rfl ?_
      first | rw [zWd_0] | rw [zWd_1, hX.pt] | rw [zWd_2, hX.ln] | rw [zWd_3] | rw [zWd_4] | rw [zWd_5] | skip
      refine z_al0 eX10_advance_85 hne ?_
      first | refine z_tg0 (j := 3) lX10_37 eX10_advance_86 rfl hT hA (by decide) rfl rfl rfl ?_ | refine z_tg (j := 3) lX10_37 eX10_advance_86 rfl hT hA ⟨by decide, by decide⟩ rfl rfl rfl ?_
      first | rw [zWd_0] | rw [zWd_1, hX.pt] | rw [zWd_2, hX.ln] | rw [zWd_3] | rw [zWd_4] | rw [zWd_5] | skip
      refine z_tl eX10_advance_89 hT TpAt ⟨by decide, by decide⟩ rfl rfl ⟨by omega, by omega⟩ ?_
      rw [zWd_o hnw, hX.tx b0 (by omega) hb]
      first | rw [zWd_0] | rw [zWd_1, hX.pt] | rw [zWd_2, hX.ln] | rw [zWd_3] | rw [zWd_4] | rw [zWd_5] | skip
      refine z_is1 eX10_advance_90 (Nat.ne_of_beq_eq_false rfl) ?_
      refine z_il1 eX10_advance_91 ?_
      refine z_bipush eX10_advance_92 (by decide) ?_
      refine z_icmp_lt (tgt := 107) eX10_advance_94 rfl ⟨⟨by omega, by omega⟩, ⟨by omega, by omega⟩⟩ (fun h94 => ?_) (fun h94 => ?_)
      · refine z_iconst eX10_advance_107 ?_
        refine z_is2 eX10_advance_108 (Nat.ne_of_beq_eq_false rfl) ?_
        refine z_il1 eX10_advance_109 ?_
        refine z_bipush eX10_advance_110 (by decide) ?_
        refine z_icmp_lt (tgt := 125) eX10_advance_112 rfl ⟨⟨by omega, by omega⟩, ⟨by omega, by omega⟩⟩ (fun h112 => ?_) (fun h112 => ?_)
        · refine z_iconst eX10_advance_125 ?_
          refine z_is3 eX10_advance_126 (Nat.ne_of_beq_eq_false rfl) ?_
          first | exact w127 1 0 (Or.inl ⟨rfl, by omega, by omega, rfl⟩) | exact w127 0 1 (Or.inr ⟨rfl, by omega, Or.inl ⟨rfl, by omega, by omega⟩⟩) | exact w127 0 0 (Or.inr ⟨rfl, by omega, Or.inr ⟨rfl, by omega⟩⟩) | (exfalso; omega) | fail
        · refine z_il1 eX10_advance_115 ?_
          refine z_bipush eX10_advance_116 (by decide) ?_
          refine z_icmp_gt (tgt := 125) eX10_advance_118 rfl ⟨⟨by omega, by omega⟩, ⟨by omega, by omega⟩⟩ (fun h118 => ?_) (fun h118 => ?_)
          · refine z_iconst eX10_advance_125 ?_
            refine z_is3 eX10_advance_126 (Nat.ne_of_beq_eq_false rfl) ?_
            first | exact w127 1 0 (Or.inl ⟨rfl, by omega, by omega, rfl⟩) | exact w127 0 1 (Or.inr ⟨rfl, by omega, Or.inl ⟨rfl, by omega, by omega⟩⟩) | exact w127 0 0 (Or.inr ⟨rfl, by omega, Or.inr ⟨rfl, by omega⟩⟩) | (exfalso; omega) | fail
          · refine z_iconst eX10_advance_121 ?_
            refine z_goto eX10_advance_122 (tgt := 126) rfl ?_
            refine z_is3 eX10_advance_126 (Nat.ne_of_beq_eq_false rfl) ?_
            first | exact w127 1 0 (Or.inl ⟨rfl, by omega, by omega, rfl⟩) | exact w127 0 1 (Or.inr ⟨rfl, by omega, Or.inl ⟨rfl, by omega, by omega⟩⟩) | exact w127 0 0 (Or.inr ⟨rfl, by omega, Or.inr ⟨rfl, by omega⟩⟩) | (exfalso; omega) | fail
      · refine z_il1 eX10_advance_97 ?_
        refine z_bipush eX10_advance_98 (by decide) ?_
        refine z_icmp_gt (tgt := 107) eX10_advance_100 rfl ⟨⟨by omega, by omega⟩, ⟨by omega, by omega⟩⟩ (fun h100 => ?_) (fun h100 => ?_)
        · refine z_iconst eX10_advance_107 ?_
          refine z_is2 eX10_advance_108 (Nat.ne_of_beq_eq_false rfl) ?_
          refine z_il1 eX10_advance_109 ?_
          refine z_bipush eX10_advance_110 (by decide) ?_
          refine z_icmp_lt (tgt := 125) eX10_advance_112 rfl ⟨⟨by omega, by omega⟩, ⟨by omega, by omega⟩⟩ (fun h112 => ?_) (fun h112 => ?_)
          · refine z_iconst eX10_advance_125 ?_
            refine z_is3 eX10_advance_126 (Nat.ne_of_beq_eq_false rfl) ?_
            first | exact w127 1 0 (Or.inl ⟨rfl, by omega, by omega, rfl⟩) | exact w127 0 1 (Or.inr ⟨rfl, by omega, Or.inl ⟨rfl, by omega, by omega⟩⟩) | exact w127 0 0 (Or.inr ⟨rfl, by omega, Or.inr ⟨rfl, by omega⟩⟩) | (exfalso; omega) | fail
          · refine z_il1 eX10_advance_115 ?_
            refine z_bipush eX10_advance_116 (by decide) ?_
            refine z_icmp_gt (tgt := 125) eX10_advance_118 rfl ⟨⟨by omega, by omega⟩, ⟨by omega, by omega⟩⟩ (fun h118 => ?_) (fun h118 => ?_)
            · refine z_iconst eX10_advance_125 ?_
              refine z_is3 eX10_advance_126 (Nat.ne_of_beq_eq_false rfl) ?_
              first | exact w127 1 0 (Or.inl ⟨rfl, by omega, by omega, rfl⟩) | exact w127 0 1 (Or.inr ⟨rfl, by omega, Or.inl ⟨rfl, by omega, by omega⟩⟩) | exact w127 0 0 (Or.inr ⟨rfl, by omega, Or.inr ⟨rfl, by omega⟩⟩) | (exfalso; omega) | fail
            · refine z_iconst eX10_advance_121 ?_
              refine z_goto eX10_advance_122 (tgt := 126) rfl ?_
              refine z_is3 eX10_advance_126 (Nat.ne_of_beq_eq_false rfl) ?_
              first | exact w127 1 0 (Or.inl ⟨rfl, by omega, by omega, rfl⟩) | exact w127 0 1 (Or.inr ⟨rfl, by omega, Or.inl ⟨rfl, by omega, by omega⟩⟩) | exact w127 0 0 (Or.inr ⟨rfl, by omega, Or.inr ⟨rfl, by omega⟩⟩) | (exfalso; omega) | fail
        · refine z_iconst eX10_advance_103 ?_
          refine z_goto eX10_advance_104 (tgt := 108) rfl ?_
          refine z_is2 eX10_advance_108 (Nat.ne_of_beq_eq_false rfl) ?_
          refine z_il1 eX10_advance_109 ?_
          refine z_bipush eX10_advance_110 (by decide) ?_
          refine z_icmp_lt (tgt := 125) eX10_advance_112 rfl ⟨⟨by omega, by omega⟩, ⟨by omega, by omega⟩⟩ (fun h112 => ?_) (fun h112 => ?_)
          · refine z_iconst eX10_advance_125 ?_
            refine z_is3 eX10_advance_126 (Nat.ne_of_beq_eq_false rfl) ?_
            first | exact w127 1 0 (Or.inl ⟨rfl, by omega, by omega, rfl⟩) | exact w127 0 1 (Or.inr ⟨rfl, by omega, Or.inl ⟨rfl, by omega, by omega⟩⟩) | exact w127 0 0 (Or.inr ⟨rfl, by omega, Or.inr ⟨rfl, by omega⟩⟩) | (exfalso; omega) | fail
          · refine z_il1 eX10_advance_115 ?_
            refine z_bipush eX10_advance_116 (by decide) ?_
            refine z_icmp_gt (tgt := 125) eX10_advance_118 rfl ⟨⟨by omega, by omega⟩, ⟨by omega, by omega⟩⟩ (fun h118 => ?_) (fun h118 => ?_)
            · refine z_iconst eX10_advance_125 ?_
              refine z_is3 eX10_advance_126 (Nat.ne_of_beq_eq_false rfl) ?_
              first | exact w127 1 0 (Or.inl ⟨rfl, by omega, by omega, rfl⟩) | exact w127 0 1 (Or.inr ⟨rfl, by omega, Or.inl ⟨rfl, by omega, by omega⟩⟩) | exact w127 0 0 (Or.inr ⟨rfl, by omega, Or.inr ⟨rfl, by omega⟩⟩) | (exfalso; omega) | fail
            · refine z_iconst eX10_advance_121 ?_
              refine z_goto eX10_advance_122 (tgt := 126) rfl ?_
              refine z_is3 eX10_advance_126 (Nat.ne_of_beq_eq_false rfl) ?_
              first | exact w127 1 0 (Or.inl ⟨rfl, by omega, by omega, rfl⟩) | exact w127 0 1 (Or.inr ⟨rfl, by omega, Or.inl ⟨rfl, by omega, by omega⟩⟩) | exact w127 0 0 (Or.inr ⟨rfl, by omega, Or.inr ⟨rfl, by omega⟩⟩) | (exfalso; omega) | fail
    · unfold qStop qKind at hfin
      rw [if_neg hb, if_neg hb] at hfin
      refine z_al0 eX10_advance_46 hne ?_
      refine z_al0 eX10_advance_47 hne ?_
      first | refine z_tg0 (j := 3) lX10_37 eX10_advance_48 rfl hT hA (by decide) rfl rfl rfl ?_ | refine z_tg (j := 3) lX10_37 eX10_advance_48 rfl hT hA ⟨by decide, by decide⟩ rfl rfl rfl ?_
      first | rw [zWd_0] | rw [zWd_1, hX.pt] | rw [zWd_2, hX.ln] | rw [zWd_3] | rw [zWd_4] | rw [zWd_5] | skip
      first | refine z_tp0 (j := 4) lX10_31 eX10_advance_51 rfl hT hA (by decide) rfl rfl rfl ?_ | refine z_tp (j := 4) lX10_31 eX10_advance_51 rfl hT hA ⟨by decide, by decide⟩ rfl rfl rfl ?_
      first | rw [zWd_s4] | rw [zWd_s5]
      refine z_al0 eX10_advance_54 hne ?_
      refine z_iconst eX10_advance_55 ?_
      first | refine z_tp0 (j := 5) lX10_40 eX10_advance_56 rfl hT hA (by decide) rfl rfl rfl ?_ | refine z_tp (j := 5) lX10_40 eX10_advance_56 rfl hT hA ⟨by decide, by decide⟩ rfl rfl rfl ?_
      first | rw [zWd_s4] | rw [zWd_s5]
      refine z_al0 eX10_advance_59 hne ?_
      first | refine z_tg0 (j := 3) lX10_37 eX10_advance_60 rfl hT hA (by decide) rfl rfl rfl ?_ | refine z_tg (j := 3) lX10_37 eX10_advance_60 rfl hT hA ⟨by decide, by decide⟩ rfl rfl rfl ?_
      first | rw [zWd_0] | rw [zWd_1, hX.pt] | rw [zWd_2, hX.ln] | rw [zWd_3] | rw [zWd_4] | rw [zWd_5] | skip
      refine z_al0 eX10_advance_63 hne ?_
      first | refine z_tg0 (j := 2) lX10_28 eX10_advance_64 rfl hT hA (by decide) rfl rfl rfl ?_ | refine z_tg (j := 2) lX10_28 eX10_advance_64 rfl hT hA ⟨by decide, by decide⟩ rfl rfl rfl ?_
      first | rw [zWd_0] | rw [zWd_1, hX.pt] | rw [zWd_2, hX.ln] | rw [zWd_3] | rw [zWd_4] | rw [zWd_5] | skip
      refine z_icmp_lt (tgt := 71) eX10_advance_67 rfl ⟨⟨by omega, by omega⟩, ⟨by omega, by omega⟩⟩ (fun h67 => (by exfalso; omega)) (fun h67 => ?_)
      refine z_return eX10_advance_70 rfl ?_
      exact hfin
  have w8 : ∀ (n : Nat) (t : Int), (e - t).toNat = n → 0 ≤ t → t ≤ e → qscan qbl T e t = qscan qbl T e s → zW G KX10_advance 1 Q 8 [zP (x + w), zU, zU, zU, zU, zU] [] lay (tC x (zWd σ w f t s k) C0) nx (0, 0) := by
    intro n
    induction n with
    | zero =>
      intro t hn t0 t1 hq
      rw [qscan_ge (by omega)] at hq
      refine z_al0 eX10_advance_8 hne ?_
      first | refine z_tg0 (j := 3) lX10_37 eX10_advance_9 rfl hT hA (by decide) rfl rfl rfl ?_ | refine z_tg (j := 3) lX10_37 eX10_advance_9 rfl hT hA ⟨by decide, by decide⟩ rfl rfl rfl ?_
      first | rw [zWd_0] | rw [zWd_1, hX.pt] | rw [zWd_2, hX.ln] | rw [zWd_3] | rw [zWd_4] | rw [zWd_5] | skip
      refine z_al0 eX10_advance_12 hne ?_
      first | refine z_tg0 (j := 2) lX10_28 eX10_advance_13 rfl hT hA (by decide) rfl rfl rfl ?_ | refine z_tg (j := 2) lX10_28 eX10_advance_13 rfl hT hA ⟨by decide, by decide⟩ rfl rfl rfl ?_
      first | rw [zWd_0] | rw [zWd_1, hX.pt] | rw [zWd_2, hX.ln] | rw [zWd_3] | rw [zWd_4] | rw [zWd_5] | skip
      refine z_icmp_ge (tgt := 46) eX10_advance_16 rfl ⟨⟨by omega, by omega⟩, ⟨by omega, by omega⟩⟩ (fun h16 => ?_) (fun h16 => (by exfalso; omega))
      rw [hq]; exact w46
    | succ n ih =>
      intro t hn t0 t1 hq
      have hb := hX.bt t t0 (by omega)
      refine z_al0 eX10_advance_8 hne ?_
      first | refine z_tg0 (j := 3) lX10_37 eX10_advance_9 rfl hT hA (by decide) rfl rfl rfl ?_ | refine z_tg (j := 3) lX10_37 eX10_advance_9 rfl hT hA ⟨by decide, by decide⟩ rfl rfl rfl ?_
      first | rw [zWd_0] | rw [zWd_1, hX.pt] | rw [zWd_2, hX.ln] | rw [zWd_3] | rw [zWd_4] | rw [zWd_5] | skip
      refine z_al0 eX10_advance_12 hne ?_
      first | refine z_tg0 (j := 2) lX10_28 eX10_advance_13 rfl hT hA (by decide) rfl rfl rfl ?_ | refine z_tg (j := 2) lX10_28 eX10_advance_13 rfl hT hA ⟨by decide, by decide⟩ rfl rfl rfl ?_
      first | rw [zWd_0] | rw [zWd_1, hX.pt] | rw [zWd_2, hX.ln] | rw [zWd_3] | rw [zWd_4] | rw [zWd_5] | skip
      refine z_icmp_ge (tgt := 46) eX10_advance_16 rfl ⟨⟨by omega, by omega⟩, ⟨by omega, by omega⟩⟩ (fun h16 => (by exfalso; omega)) (fun h16 => ?_)
      refine z_al0 eX10_advance_19 hne ?_
      first | refine z_td0 (j := 1) lX10_15 eX10_advance_20 rfl hT hA (by decide) rfl rfl rfl ?_ | refine z_td (j := 1) lX10_15 eX10_advance_20 rfl hT hA ⟨by decide, by decide⟩ rfl rfl rfl ?_
      first | rw [zWd_0] | rw [zWd_1, hX.pt] | rw [zWd_2, hX.ln] | rw [zWd_3] | rw [zWd_4] | rw [zWd_5] | skip
      refine z_al0 eX10_advance_23 hne ?_
      first | refine z_tg0 (j := 3) lX10_37 eX10_advance_24 rfl hT hA (by decide) rfl rfl rfl ?_ | refine z_tg (j := 3) lX10_37 eX10_advance_24 rfl hT hA ⟨by decide, by decide⟩ rfl rfl rfl ?_
      first | rw [zWd_0] | rw [zWd_1, hX.pt] | rw [zWd_2, hX.ln] | rw [zWd_3] | rw [zWd_4] | rw [zWd_5] | skip
      refine z_tl eX10_advance_27 hT TpAt ⟨by decide, by decide⟩ rfl rfl ⟨by omega, by omega⟩ ?_
      rw [zWd_o hnw, hX.tx t t0 (by omega)]
      first | rw [zWd_0] | rw [zWd_1, hX.pt] | rw [zWd_2, hX.ln] | rw [zWd_3] | rw [zWd_4] | rw [zWd_5] | skip
      refine z_bipush eX10_advance_28 (by decide) ?_
      refine z_icmp_ne (tgt := 46) eX10_advance_30 rfl ⟨⟨by omega, by omega⟩, ⟨by omega, by omega⟩⟩ (fun h30 => ?_) (fun h30 => ?_)
      · rw [qscan_f (by omega) (qbl_f (by omega))] at hq
        rw [hq]; exact w46
      · refine z_al0 eX10_advance_33 hne ?_
        refine z_dup eX10_advance_34 (Nat.ne_of_beq_eq_false rfl) ?_
        first | refine z_tg0 (j := 3) lX10_37 eX10_advance_35 rfl hT hA (by decide) rfl rfl rfl ?_ | refine z_tg (j := 3) lX10_37 eX10_advance_35 rfl hT hA ⟨by decide, by decide⟩ rfl rfl rfl ?_
        first | rw [zWd_0] | rw [zWd_1, hX.pt] | rw [zWd_2, hX.ln] | rw [zWd_3] | rw [zWd_4] | rw [zWd_5] | skip
        refine z_iconst eX10_advance_38 ?_
        refine z_iadd eX10_advance_39 ?_
        first | refine z_tp0 (j := 3) lX10_37 eX10_advance_40 rfl hT hA (by decide) rfl rfl rfl ?_ | refine z_tp (j := 3) lX10_37 eX10_advance_40 rfl hT hA ⟨by decide, by decide⟩ rfl rfl rfl ?_
        rw [zWd_s3]
        refine z_goto eX10_advance_43 (tgt := 8) rfl ?_
        exact ih (t + 1) (by omega) (by omega) (by omega) (by rw [← hq]; exact (qscan_t (k := t) (by omega) (qbl_t (by omega))).symm)
  rw [hQ]
  refine z_al0 eX10_advance_0 hne ?_
  refine z_al0 eX10_advance_1 hne ?_
  first | refine z_tg0 (j := 4) lX10_31 eX10_advance_2 rfl hT hA (by decide) rfl rfl rfl ?_ | refine z_tg (j := 4) lX10_31 eX10_advance_2 rfl hT hA ⟨by decide, by decide⟩ rfl rfl rfl ?_
  first | rw [zWd_0] | rw [zWd_1, hX.pt] | rw [zWd_2, hX.ln] | rw [zWd_3] | rw [zWd_4] | rw [zWd_5] | skip
  first | refine z_tp0 (j := 3) lX10_37 eX10_advance_5 rfl hT hA (by decide) rfl rfl rfl ?_ | refine z_tp (j := 3) lX10_37 eX10_advance_5 rfl hT hA ⟨by decide, by decide⟩ rfl rfl rfl ?_
  rw [zWd_s3]
  exact w8 _ s rfl hs.1 hs.2 rfl
