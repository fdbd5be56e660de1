/-! Texts that agree as far as they go are read alike. -/
section ZAGR
variable {T T' : Int → Int} {e : Int}
def qAgr (T' T : Int → Int) (e : Int) : Prop := ∀ i, 0 ≤ i → i < e → T' i = T i
theorem qscan_T (h : qAgr T' T e) {P : Int → Bool} : ∀ (n : Nat) (k : Int), (e - k).toNat = n → 0 ≤ k → qscan P T' e k = qscan P T e k := by
  intro n
  induction n with
  | zero => intro k hn k0; rw [qscan_ge (by omega), qscan_ge (by omega)]
  | succ n ih =>
    intro k hn k0
    have e1 := h k k0 (by omega)
    by_cases c : P (T k) = true
    · rw [qscan_t (by omega) c, qscan_t (by omega) (by rw [e1]; exact c)]
      exact ih (k + 1) (by omega) (by omega)
    · rw [qscan_f (by omega) c, qscan_f (by omega) (by rw [e1]; exact c)]
theorem qskip_T (h : qAgr T' T e) {a : Int} (ha : 0 ≤ a) : qscan qbl T' e a = qscan qbl T e a := qscan_T h _ a rfl ha
theorem qhas_T (h : qAgr T' T e) {a : Int} (ha : 0 ≤ a ∧ a ≤ e) (w : List Int) : qhas T' e a w = qhas T e a w := by
  unfold qhas
  rw [qscan_T h _ a rfl ha.1]
  refine propext (and_congr_right (fun z => ?_))
  have hb := (qscan_bd (P := qlet) (T := T) (e := e) (k := a)).2 ha.2
  constructor
  · intro q i hi; rw [← h (a + i) (by omega) (by omega)]; exact q i hi
  · intro q i hi; rw [h (a + i) (by omega) (by omega)]; exact q i hi
theorem qfgN_T (h : qAgr T' T e) : ∀ (n : Nat) (a v : Int), 0 ≤ a → qfgN T' e n a v = qfgN T e n a v := by
  intro n
  induction n with
  | zero => intro a v _; rfl
  | succ n ih =>
    intro a v ha
    by_cases c : a < e
    · have e1 := h a ha c
      by_cases c2 : 48 ≤ T a ∧ T a ≤ 57
      · rw [qfgN_yes ⟨c, c2⟩, qfgN_yes ⟨c, by rw [e1]; exact c2⟩, e1]
        exact ih (a + 1) _ (by omega)
      · rw [qfgN_no (fun q => c2 q.2), qfgN_no (fun q => c2 (by rw [← e1]; exact q.2))]
    · rw [qfgN_no (fun q => c q.1), qfgN_no (fun q => c q.1)]
theorem qFig_T (h : qAgr T' T e) {lo hi a f : Int} (ha : 0 ≤ a) : qFig T' e lo hi a f = qFig T e lo hi a f := by
  have hb := qscan_bd (P := qbl) (T := T) (e := e) (k := a)
  unfold qFig
  rw [qskip_T h ha, qfgN_T h 4 _ _ (by omega)]
theorem qsgn_T (h : qAgr T' T e) {b c : Int} (hb : 0 ≤ b) : (b < e ∧ T' b = c) = (b < e ∧ T b = c) := propext (and_congr_right (fun z => by rw [h b hb z]))
theorem qPartW_T (h : qAgr T' T e) {b : Int} {F : Int → Int} (hb : 0 ≤ b ∧ b ≤ e) : qPartW T' e F b = qPartW T e F b := by
  unfold qPartW
  rw [qhas_T h hb, qhas_T h hb, qhas_T h hb, qhas_T h hb, qhas_T h hb, qhas_T h hb, qhas_T h hb]
theorem qPart_T (h : qAgr T' T e) {a f : Int} {F : Int → Int} (ha : 0 ≤ a ∧ a ≤ e) : qPart T' e F a f = qPart T e F a f := by
  have hb := qskip_bd (T := T) ha.2
  unfold qPart
  rw [qskip_T h ha.1, qFig_T h (by omega), qPartW_T h ⟨by omega, hb.2⟩]
  have e1 : (qscan qbl T e a < e ∧ 48 ≤ T' (qscan qbl T e a) ∧ T' (qscan qbl T e a) ≤ 57) = (qscan qbl T e a < e ∧ 48 ≤ T (qscan qbl T e a) ∧ T (qscan qbl T e a) ≤ 57) := propext (and_congr_right (fun z => by rw [h _ (by omega) z]))
  simp only [e1]
theorem qSumN_T (h : qAgr T' T e) (he : e ≤ 400) (hT : ∀ k, 0 ≤ k → k < 400 → 0 ≤ T k) {F : Int → Int} (hF : zFact F) : ∀ (k : Nat) (v a f : Int), qAt e a f → qSumN T' e F k v a f = qSumN T e F k v a f := by
  intro k
  induction k with
  | zero => intro v a f _; rfl
  | succ k ih =>
    intro v a f ha
    have hb := qskip_bd (T := T) ha.2.1
    have ha0 := ha.1
    unfold qSumN
    rw [qskip_T h ha.1]
    by_cases c : f = -1
    · rw [if_pos c, if_pos c]
      simp only [qsgn_T h (b := qscan qbl T e a) (c := 43) (by omega)]
      by_cases c2 : qscan qbl T e a < e ∧ T (qscan qbl T e a) = 43
      · have c3 := c2.1
        rw [if_pos c2, if_pos c2, qPart_T h ⟨by omega, by omega⟩]
        exact ih _ _ _ (qPart_bd hF ⟨by omega, by omega, by decide, by decide⟩ he hT).1
      · rw [if_neg c2, if_neg c2]
    · rw [if_neg c, if_neg c]
theorem qSum_T (h : qAgr T' T e) (he : e ≤ 400) (hT : ∀ k, 0 ≤ k → k < 400 → 0 ≤ T k) {F : Int → Int} (hF : zFact F) {a : Int} (ha : 0 ≤ a ∧ a ≤ e) : qSum T' e F a (-1) = qSum T e F a (-1) := by
  unfold qSum
  rw [qPart_T h ha]
  exact qSumN_T h he hT hF _ _ _ _ (qPart_bd hF ⟨ha.1, ha.2, by decide, by decide⟩ he hT).1
theorem qCmp_T (h : qAgr T' T e) (he : e ≤ 400) (hT : ∀ k, 0 ≤ k → k < 400 → 0 ≤ T k) {F : Int → Int} (hF : zFact F) {b : Int} (hb : 0 ≤ b ∧ b ≤ e) : qCmp T' e F b = qCmp T e F b := by
  rw [qCmpR_q, qCmpR_q, qSum_T h he hT hF hb]
  have hq := (qSum_bd (T := T) (a := b) (f := -1) hF ⟨hb.1, hb.2, by decide, by decide⟩ he hT).1
  generalize qSum T e F b (-1) = S at hq ⊢
  have hq0 := hq.1
  have hsk := qskip_bd (T := T) hq.2.1
  unfold qCmpR
  rw [qskip_T h hq.1]
  simp only [qsgn_T h (b := qscan qbl T e S.2.1) (by omega : 0 ≤ qscan qbl T e S.2.1)]
  by_cases c : S.2.2 = -1
  · rw [if_pos c, if_pos c]
    by_cases c2 : qscan qbl T e S.2.1 < e
    · rw [qSum_T h he hT hF (a := qscan qbl T e S.2.1 + 1) ⟨by omega, by omega⟩]
    · rw [if_neg (fun q => c2 q.1), if_neg (fun q => c2 q.1), if_neg (fun q => c2 q.1), if_neg (fun q => c2 q.1)]
  · rw [if_neg c, if_neg c]
theorem qPlain_T (h : qAgr T' T e) (he : e ≤ 400) (hT : ∀ k, 0 ≤ k → k < 400 → 0 ≤ T k) {F : Int → Int} (hF : zFact F) {H V b : Int} (hb : 0 ≤ b ∧ b ≤ e) : qPlain T' e F H V b = qPlain T e F H V b := by
  unfold qPlain
  rw [qhas_T h hb, qhas_T h hb, qhas_T h hb, qCmp_T h he hT hF hb]
theorem qChN_T (h : qAgr T' T e) {n : Int} {w : List Int} {g : Int → Int → Int} {A A' : Int → Int × Int × Int} (hA : ∀ a, 0 ≤ a → a ≤ e → A' a = A a) (hC : ∀ a, 0 ≤ a → a ≤ e → qC e n a (A a)) : ∀ (k : Nat) (v a f : Int), qAx e n a f → qChN T' e w g A' k v a f = qChN T e w g A k v a f := by
  intro k
  induction k with
  | zero => intro v a f _; rfl
  | succ k ih =>
    intro v a f ha
    unfold qChN
    by_cases c : f = -1
    · rw [if_pos c, if_pos c]
      have ha1 := ha.2.2.1 c
      have ha0 := ha.1
      have hb := qskip_bd (T := T) ha1
      rw [qskip_T h ha0, qhas_T h ⟨by omega, hb.2⟩]
      by_cases c2 : qhas T e (qscan qbl T e a) w
      · have h3 := qhas_bd c2 hb.2
        rw [zif_t c2, zif_t c2, hA _ (by omega) h3]
        exact ih _ _ _ (hC _ (by omega) h3).1
      · rw [zif_f c2, zif_f c2]
    · rw [if_neg c, if_neg c]
theorem qEv_T (h : qAgr T' T e) {n : Int} {A A' : Int → Int × Int × Int} (hA : ∀ a, 0 ≤ a → a ≤ e → A' a = A a) (hC : ∀ a, 0 ≤ a → a ≤ e → qC e n a (A a)) (a : Int) (a0 : 0 ≤ a) (a1 : a ≤ e) : qEv T' e A' a = qEv T e A a := by
  unfold qEv
  rw [hA a a0 a1]
  exact qChN_T h hA hC _ _ _ _ (hC a a0 a1).1
theorem qSm_T (h : qAgr T' T e) {n : Int} (hn : 0 ≤ n) {A A' : Int → Int × Int × Int} (hA : ∀ a, 0 ≤ a → a ≤ e → A' a = A a) (hC : ∀ a, 0 ≤ a → a ≤ e → qC e n a (A a)) (a : Int) (a0 : 0 ≤ a) (a1 : a ≤ e) : qSm T' e A' a = qSm T e A a := by
  unfold qSm
  rw [qEv_T h hA hC a a0 a1]
  exact qChN_T h (qEv_T h hA hC) (qEv_bd hn hC) _ _ _ _ (qEv_bd hn hC a a0 a1).1
theorem qAtom_T (h : qAgr T' T e) (he : e ≤ 400) (hT : ∀ k, 0 ≤ k → k < 400 → 0 ≤ T k) {F : Int → Int} (hF : zFact F) {H V : Int} (hH : H = 0 ∨ H = 1) (hV : V = 0 ∨ V = 1) : ∀ (n : Nat) (a : Int), 0 ≤ a → a ≤ e → qAtom T' e F H V n a = qAtom T e F H V n a := by
  intro n
  induction n with
  | zero =>
    intro a a0 a1
    have hb := qskip_bd (T := T) a1
    show zif (qhas T' e (qscan qbl T' e a) qw_not) _ _ = zif (qhas T e (qscan qbl T e a) qw_not) _ _
    rw [qskip_T h a0, qhas_T h ⟨by omega, hb.2⟩, qPlain_T h he hT hF ⟨by omega, hb.2⟩]
    simp only [qsgn_T h (b := qscan qbl T e a) (c := 40) (by omega)]
  | succ n ih =>
    intro a a0 a1
    have hb := qskip_bd (T := T) a1
    have hC := fun a a0 a1 => qAtom_bd (T := T) hF hH hV he hT n a a0 a1
    show zif (qhas T' e (qscan qbl T' e a) qw_not) _ _ = zif (qhas T e (qscan qbl T e a) qw_not) _ _
    rw [qskip_T h a0, qhas_T h ⟨by omega, hb.2⟩, qPlain_T h he hT hF ⟨by omega, hb.2⟩]
    simp only [qsgn_T h (b := qscan qbl T e a) (c := 40) (by omega)]
    by_cases c : qhas T e (qscan qbl T e a) qw_not
    · have h3 : qscan qbl T e a + 3 ≤ e := qhas_bd c hb.2
      rw [zif_t c, zif_t c, ih _ (by omega) h3]
    · rw [zif_f c, zif_f c]
      by_cases c2 : qscan qbl T e a < e ∧ T (qscan qbl T e a) = 40
      · have c3 := c2.1
        rw [if_pos c2, if_pos c2, qSm_T h (n := n) (by omega) ih hC _ (by omega) (by omega)]
        have hq := (qSm_bd (T := T) (n := n) (by omega) hC (qscan qbl T e a + 1) (by omega) (by omega)).1
        generalize qSm T e (qAtom T e F H V n) (qscan qbl T e a + 1) = r at hq ⊢
        unfold qBrk
        by_cases c4 : r.2.2 = -1
        · have hq0 := hq.1
          have hq1 := hq.2.2.1 c4
          have hb2 := qskip_bd (T := T) hq1
          rw [if_pos c4, if_pos c4, qskip_T h hq0]
          simp only [qsgn_T h (b := qscan qbl T e r.2.1) (c := 41) (by omega)]
        · rw [if_neg c4, if_neg c4]
      · rw [if_neg c2, if_neg c2]
theorem qLine_T (h : qAgr T' T e) (he : e ≤ 400) (hT : ∀ k, 0 ≤ k → k < 400 → 0 ≤ T k) {n : Int} (hn : 0 ≤ n) {A A' : Int → Int × Int × Int} (hA : ∀ a, 0 ≤ a → a ≤ e → A' a = A a) (hC : ∀ a, 0 ≤ a → a ≤ e → qC e n a (A a)) {a : Int} (ha : 0 ≤ a ∧ a ≤ e) : qLine T' e A' a = qLine T e A a := by
  have hb := qskip_bd (T := T) ha.2
  have h2 : ∀ k m p f, qAt e p f → qL2 T' e A' k m p f = qL2 T e A k m p f := by
    intro k m p f hp
    have hp0 := hp.1
    have hbp := qskip_bd (T := T) hp.2.1
    unfold qL2
    by_cases c : f = -1
    · rw [if_pos c, if_pos c, qskip_T h hp.1, qhas_T h ⟨by omega, hbp.2⟩]
      by_cases c2 : qhas T e (qscan qbl T e p) qw_if
      · have h3 : qscan qbl T e p + 2 ≤ e := qhas_bd c2 hbp.2
        rw [zif_t c2, zif_t c2, qSm_T h hn hA hC _ (by omega) h3]
      · rw [zif_f c2, zif_f c2]
    · rw [if_neg c, if_neg c]
  have h1 : ∀ k p, 0 ≤ p → p ≤ e → qL1 T' e A' k p = qL1 T e A k p := by
    intro k p p0 p1
    unfold qL1
    rw [qFig_T h p0]
    split
    · exact h2 _ _ _ _ ⟨p0, p1, by decide, by decide⟩
    · exact h2 _ _ _ _ (qFig_bd ⟨p0, p1, by decide, by decide⟩ he hT).1
  unfold qLine
  rw [qskip_T h ha.1, qhas_T h ⟨by omega, hb.2⟩, qhas_T h ⟨by omega, hb.2⟩, qhas_T h ⟨by omega, hb.2⟩]
  by_cases c0 : qhas T e (qscan qbl T e a) qw_feel
  · rw [zif_t c0, zif_t c0]; exact h1 _ _ (by omega) (qhas_bd c0 hb.2)
  rw [zif_f c0, zif_f c0]
  by_cases c1 : qhas T e (qscan qbl T e a) qw_dull
  · rw [zif_t c1, zif_t c1]; exact h1 _ _ (by omega) (qhas_bd c1 hb.2)
  rw [zif_f c1, zif_f c1]
  by_cases c2 : qhas T e (qscan qbl T e a) qw_lapse
  · rw [zif_t c2, zif_t c2]; exact h1 _ _ (by omega) (qhas_bd c2 hb.2)
  rw [zif_f c2, zif_f c2]
theorem qLawN_T (h : qAgr T' T e) (he : e ≤ 400) (hT : ∀ k, 0 ≤ k → k < 400 → 0 ≤ T k) {A A' : Int → Int × Int × Int} (hA : ∀ a, 0 ≤ a → a ≤ e → A' a = A a) (hC : ∀ a, 0 ≤ a → a ≤ e → qC e 6 a (A a)) : ∀ (k : Nat) (n : Int) (W : Int × Int × Int) (a : Int), 0 ≤ a → a ≤ e → qLawN T' e A' k n W a = qLawN T e A k n W a := by
  intro k
  induction k with
  | zero => intro n W a _ _; rfl
  | succ k ih =>
    intro n W a a0 a1
    have hb := qskip_bd (T := T) a1
    by_cases c : n = 12
    · show (if n = 12 then _ else _) = (if n = 12 then _ else _)
      rw [if_pos c, if_pos c, qskip_T h a0]
    · rw [qLawN_s c (qLine_T h he hT (by decide) hA hC ⟨a0, a1⟩), qLawN_s c rfl]
      have hq := qLine_bd (T := T) (A := A) hC ⟨a0, a1⟩ he hT
      generalize qLine T e A a = L at hq ⊢
      by_cases c1 : L.2.2.2.2 = -1
      · have hq0 := hq.1.1
        have hq1 := hq.1.2.2.1 c1
        have hb2 := qskip_bd (T := T) hq1
        rw [qskip_T h hq0]
        by_cases c2 : qscan qbl T e L.2.2.2.1 < e
        · rw [if_pos (c := L.2.2.2.2 = -1 ∧ qscan qbl T e L.2.2.2.1 < e) ⟨c1, c2⟩, if_pos (c := L.2.2.2.2 = -1 ∧ qscan qbl T e L.2.2.2.1 < e) ⟨c1, c2⟩, h _ (by omega) c2]
          show (if _ then _ else _) = (if _ then _ else _)
          congr 1
          exact ih _ _ _ (by omega) (by omega)
        · rw [if_neg (c := L.2.2.2.2 = -1 ∧ qscan qbl T e L.2.2.2.1 < e) (fun q => c2 q.2), if_neg (c := L.2.2.2.2 = -1 ∧ qscan qbl T e L.2.2.2.1 < e) (fun q => c2 q.2)]
      · have hq0 := hq.1.1
        rw [if_neg (fun q => c1 q.1), if_neg (fun q => c1 q.1), qskip_T h hq0]
theorem qRF_T (h : qAgr T' T e) (he : 0 ≤ e ∧ e ≤ 400) (hT : ∀ k, 0 ≤ k → k < 400 → 0 ≤ T k) {F : Int → Int} (hF : qFaOK F) : qRF T' e F = qRF T e F := by
  have hA := qAtom_T h he.2 hT hF.1 hF.2.1 hF.2.2.1 6
  have hC := fun a a0 a1 => qAtom_bd (T := T) (e := e) hF.1 hF.2.1 hF.2.2.1 he.2 hT 6 a a0 a1
  have hb := qskip_bd (T := T) he.1
  unfold qRF qLaw qAF
  rw [qskip_T h (by decide)]
  by_cases c : qscan qbl T e 0 < e
  · rw [if_pos c, if_pos c]
    exact qLawN_T h he.2 hT hA hC _ _ _ _ (by omega) (by omega)
  · rw [if_neg c, if_neg c]
end ZAGR
