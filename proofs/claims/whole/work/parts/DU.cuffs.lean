/-! Cuffs: throws after the state has changed. -/
/-- an end that is r where P, and else a throw; R of the state in both -/
def zTw (P : Prop) (r : Option zAV) (E : String) (R : zMem → zMem → Prop) (lay : zLay) (nx x : Int) : zQ := fun o l c n => ∃ s C' : zMem, R s C' ∧ ((P ∧ o = .inl r) ∨ (¬ P ∧ o = .inr E)) ∧ l = lay ∧ c = tC x s C' ∧ n = nx
section ZTW
variable {G : zG} {k k' : zK} {D D' : Nat} {Q : zQ} {lay lay' : zLay} {C : zMem} {nx nx' x : Int} {st : List zAV} {pc pc' n idx ci : Nat} {own : String} {P : Prop} {E : String} {L : List zAV} {o nn : Int} {R : zMem → zMem → Prop}
theorem z_V0w (hd : zD k pc (.invokevirtual idx) 3 pc') (hf : zVc own idx k' 0 ci) (hw : own = k.1.cls) (hk : k.2.2.2.2 = []) (hD : D' + 1 ≤ D) (hst : st.length ≤ 4) (ho : lay o = (ci + 1, nn)) (hM : zMM G D' k' [zP o] lay C nx (1, 6) (zTw P none E R lay' nx' x)) (kk : ∀ s C', R s C' → P → zW G k D Q pc' L st lay' (tC x s C') nx' (n, 6 * n)) (kx : ∀ s C', R s C' → ¬ P → Q (.inr E) lay' (tC x s C') nx') : zW G k D Q pc L (zP o :: st) lay C nx (n + 1, 6 * n + 6) := by
  have h := z_V0q (L := L) (b' := (1, 6)) (b'' := (n, 6 * n)) (Q := Q) hd hf hw hk hD hst ho hM
    (fun r l c m q => by
      obtain ⟨s, C', q0, q1, q2, q3, q4⟩ := q
      subst q2; subst q3; subst q4
      rcases q1 with ⟨p, q1⟩ | ⟨_, q1⟩
      · have q5 := Sum.inl.inj q1
        subst q5
        exact kk s C' q0 p
      · cases q1)
    (fun E' l c m q => by
      obtain ⟨s, C', q0, q1, q2, q3, q4⟩ := q
      subst q2; subst q3; subst q4
      rcases q1 with ⟨_, q1⟩ | ⟨p, q1⟩
      · cases q1
      · have q5 := Sum.inr.inj q1
        subst q5
        exact kx s C' q0 p)
  rw [Nat.add_comm n 1, Nat.add_comm (6 * n) 6]
  exact h
end ZTW
/-- cuffs have been read: the tape is at its beginning, what is allowed may have changed -/
def zRc (σ C0 : zMem) (M : Int → Int) (s C : zMem) : Prop := s 0 = zset σ 0 1 0 0 ∧ (∀ i, i ≠ 0 → ¬ (304 ≤ i ∧ i < 307) → i ≠ 19 → s i = σ i) ∧ zStk C0 (σ (0 + 2) 10) C
def zRa (σ : zMem) (M : Int → Int) (s : zMem) : Prop := ∀ h t, 0 ≤ h → h < 12 → 0 ≤ t → t < 5 → (zbit (s 304 h) t = 1 ↔ qFit (σ 1) M (σ 0 1) h t)
theorem zRa.all {σ s : zMem} {M : Int → Int} (h : zRa σ M s) : ∀ a t, 0 ≤ a → a < 12 → 0 ≤ t → t < 5 → (zbit (s 304 a) t = 1 ↔ ¬ qBad (σ 1) M (σ 0 1) (-1) a t) := by
  intro a t a0 a1 t0 t1
  rw [h a t a0 a1 t0 t1]
  unfold qBad
  exact ⟨fun z y => by rcases y with y | y; omega; exact y z, fun z => Classical.byContradiction (fun y => z (Or.inr y))⟩
theorem zRc.R {lay : zLay} {x : Int} {σ C0 s C : zMem} {M W : Int → Int} (h : zRc σ C0 W s C) (hR : CoR lay x C0 σ (0 + 2) M) : CoR lay x C s (0 + 2) M := by
  have e2 := h.2.1 (0 + 2) (by omega) (by omega) (by omega)
  exact ⟨hR.1.out (fun i i0 i1 _ _ => h.2.1 _ (by omega) (by omega) (by omega)), by rw [e2]; exact hR.2.cg' h.2.2⟩
theorem zRc.cu {σ C0 s C q : zMem} {M : Int → Int} (h : zRc σ C0 M s C) (hq : zOut 304 3 s q) : zRc σ C0 M q C :=
  ⟨by rw [hq 0 (by omega)]; exact h.1, fun i i0 i1 i2 => by rw [hq i (by omega)]; exact h.2.1 i i0 i1 i2, h.2.2⟩
theorem zRc.fc {σ C0 s C q D : zMem} {M : Int → Int} (h : zRc σ C0 M s C) (hq : zFc (0 + 2) s C q D) : zRc σ C0 M q D := by
  have hz := hq.2
  rw [h.2.1 (0 + 2) (by omega) (by omega) (by omega)] at hz
  exact ⟨by rw [hq.1 0 (by omega)]; exact h.1, fun i i0 i1 i2 => by rw [hq.1 i (by omega)]; exact h.2.1 i i0 i1 i2, h.2.2.trans hz⟩
theorem c_X11_readCuffs {G : zG} {lay : zLay} {σ C0 : zMem} {nx x : Int} (hT : TopL lay x) {M : Int → Int} (hR : CoR lay x C0 σ (0 + 2) M) (hM : zOC M) (ht : 0 ≤ σ 0 1 ∧ σ 0 1 ≤ 400) (hb : ∀ i, 0 ≤ i → i < 400 → 0 ≤ σ 1 i ∧ σ 1 i ≤ 255) : zMM G 7 KX11_readCuffs [zP (x + 0)] lay (tC x σ C0) nx (1, 6) (zTw (qCuffs (σ 1) M (σ 0 1)) none zEa (fun s C => zRc σ C0 M s C ∧ (qCuffs (σ 1) M (σ 0 1) → zRa σ M s)) lay nx x) := by
  refine z_met' (L := [zP (x + 0), zU]) gX11_readCuffs.1 rfl rfl (Nat.le_of_ble_eq_true rfl) rfl ?_
  have hA := TpAt
  have hx := hT.1
  have hne : x + 0 ≠ -1 := by omega
  have hD := isCo.now
  have key : ∀ s16 C16 : zMem, ((∀ i, i ≠ 304 → i ≠ 0 + 2 + 17 → s16 i = σ i) ∧ zStk C0 (σ (0 + 2) 10) C16 ∧ (qCuffs (σ 1) M (σ 0 1) → ∀ h t, 0 ≤ h → h < 12 → 0 ≤ t → t < 5 → (zbit (s16 304 h) t = 1 ↔ qFit (σ 1) M (σ 0 1) h t))) → zRc σ C0 M (zset s16 0 1 0) C16 ∧ (qCuffs (σ 1) M (σ 0 1) → zRa σ M (zset s16 0 1 0)) := by
    intro s C h
    have e0 := h.1 0 (by decide) (by decide)
    refine ⟨⟨?_, fun i i0 i1 i2 => by rw [zset_o i0]; exact h.1 i (by omega) (by omega), h.2.1⟩, fun z => ?_⟩
    · funext j
      unfold zset
      rw [e0]
    · intro a t a0 a1 t0 t1
      rw [zset_o (by decide)]
      exact h.2.2 z a t a0 a1 t0 t1
  refine z_al0 eX11_readCuffs_0 hne ?_
  first | refine z_ta0 lX11_51 eX11_readCuffs_1 rfl hT hA (by decide) rfl rfl ?_ | refine z_ta lX11_51 eX11_readCuffs_1 rfl hT hA ⟨by decide, by decide⟩ rfl rfl ?_
  refine z_al0 eX11_readCuffs_4 hne ?_
  first | refine z_ta0 lX11_9 eX11_readCuffs_5 rfl hT hA (by decide) rfl rfl ?_ | refine z_ta lX11_9 eX11_readCuffs_5 rfl hT hA ⟨by decide, by decide⟩ rfl rfl ?_
  refine z_al0 eX11_readCuffs_8 hne ?_
  first | refine z_tg0 (j := 1) lX11_69 eX11_readCuffs_9 rfl hT hA (by decide) rfl rfl rfl ?_ | refine z_tg (j := 1) lX11_69 eX11_readCuffs_9 rfl hT hA ⟨by decide, by decide⟩ rfl rfl rfl ?_
  refine z_al0 eX11_readCuffs_12 hne ?_
  first | refine z_ta0 lX11_20 eX11_readCuffs_13 rfl hT hA (by decide) rfl rfl ?_ | refine z_ta lX11_20 eX11_readCuffs_13 rfl hT hA ⟨by decide, by decide⟩ rfl rfl ?_
  refine z_V3y eX11_readCuffs_16 vX11_330 rfl rfl (Nat.le_of_ble_eq_true rfl) (Nat.le_of_ble_eq_true rfl) ((CuAt).L0 hT (by decide)) (c_X2_readRows hT hD (by decide) hR hM ht hb (by decide)) (fun s16 C16 hs16 => ?_)
  refine z_is1 eX11_readCuffs_19 (Nat.ne_of_beq_eq_false rfl) ?_
  refine z_al0 eX11_readCuffs_20 hne ?_
  refine z_iconst eX11_readCuffs_21 ?_
  first | refine z_tp0 (j := 1) lX11_69 eX11_readCuffs_22 rfl hT hA (by decide) rfl rfl rfl ?_ | refine z_tp (j := 1) lX11_69 eX11_readCuffs_22 rfl hT hA ⟨by decide, by decide⟩ rfl rfl rfl ?_
  refine z_il1 eX11_readCuffs_25 ?_
  refine z_ifb_ne (tgt := 40) eX11_readCuffs_26 rfl (fun h26 => ?_) (fun h26 => ?_)
  · refine z_return eX11_readCuffs_40 rfl ?_
    exact ⟨_, _, key _ _ hs16, Or.inl ⟨h26, rfl⟩, rfl, rfl, rfl⟩
  · exact z_throwW (sn := 56) rfl zth_89 rfl rfl eX11_readCuffs_29 eX11_readCuffs_32 eX11_readCuffs_33 eX11_readCuffs_36 eX11_readCuffs_39 (Nat.le_of_ble_eq_true rfl) ⟨(Nat.le_of_ble_eq_true rfl), (Nat.le_of_ble_eq_true rfl)⟩ (by exact ⟨_, _, key _ _ hs16, Or.inr ⟨h26, rfl⟩, rfl, rfl, rfl⟩)
