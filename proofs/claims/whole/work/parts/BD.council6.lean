/-! Which motions are carried. -/
/-- facts and a law's stack have changed -/
def zFc (b : Int) (σ C0 s C : zMem) : Prop := zOut (b + 17) 1 σ s ∧ zStk C0 (σ b 10) C
theorem zFc.refl (b : Int) (σ C0 : zMem) : zFc b σ C0 σ C0 := ⟨zOut.refl _ _ _, zStk.refl _ _⟩
theorem zFc.trans {b : Int} {σ C0 s C t D : zMem} (h : zFc b σ C0 s C) (h2 : zFc b s C t D) : zFc b σ C0 t D := ⟨h.1.trans h2.1, h.2.trans (by have := h2.2; rwa [h.1.cell] at this)⟩
theorem CoR.fc {lay : zLay} {x b : Int} {C0 σ s C : zMem} {M : Int → Int} (h : CoR lay x C0 σ b M) (f : zFc b σ C0 s C) : CoR lay x C s b M := ⟨h.1.o17 f.1, by rw [f.1.cell]; exact h.2.cg f.2.same⟩
theorem qOuts_256 {M : Int → Int} (hM : zOK M) : 0 ≤ qOuts M ∧ qOuts M < 128 := by
  have hm3 := hM.1.m3
  refine zB_of (x := qOuts M) (n := 7) (zors_in _ hm3.1) (by decide) (fun k k0 k1 => ?_)
  cases e : zB (qOuts M) k with
  | false => rfl
  | true =>
    have := (qOuts_B hM (p := k) ⟨by omega, by omega⟩).mp ((zbit_B1 (by omega) (by omega)).mpr (by rw [Int.toNat_natCast]; exact e))
    omega
theorem zbit_and {a c p : Int} (hp : 0 ≤ p ∧ p < 32) : zbit (zand a c) p = 1 ↔ zbit a p = 1 ∧ zbit c p = 1 := by
  rw [zbit_B1 hp.1 hp.2, zbit_B1 hp.1 hp.2, zbit_B1 hp.1 hp.2, zB_and]
  exact Bool.and_eq_true_iff
theorem zbit_not {a p : Int} (hp : 0 ≤ p ∧ p < 32) : zbit (zxor a (-1)) p = 1 ↔ ¬ zbit a p = 1 := by
  rw [zbit_B1 hp.1 hp.2, zbit_B1 hp.1 hp.2, zB_xor, zB_m1 (by omega)]
  cases zB a p.toNat <;> simp
theorem zbit_or {a c p : Int} (hp : 0 ≤ p ∧ p < 32) : zbit (zor a c) p = 1 ↔ zbit a p = 1 ∨ zbit c p = 1 := by
  rw [zbit_B1 hp.1 hp.2, zbit_B1 hp.1 hp.2, zbit_B1 hp.1 hp.2, zB_or]
  exact Bool.or_eq_true_iff
theorem zbit_xor {a c p : Int} (hp : 0 ≤ p ∧ p < 32) : zbit (zxor a c) p = 1 ↔ ¬ (zbit a p = 1 ↔ zbit c p = 1) := by
  rw [zbit_B1 hp.1 hp.2, zbit_B1 hp.1 hp.2, zbit_B1 hp.1 hp.2, zB_xor]
  cases zB a p.toNat <;> cases zB c p.toNat <;> simp
theorem qSeat_one {M : Int → Int} (hM : zOK M) (k : Int) : qSeat M (zand (qOuts M) (M (74 + 5 * k + 3))) (M 3) = qOne M k := by
  have hm3 := hM.1.m3
  unfold qSeat qOne
  refine zsum_congr (fun p p0 p1 => ?_)
  have hU := hM.1.U (p := p) ⟨p0, by omega⟩
  have h1 := zbit_and (a := qOuts M) (c := M (74 + 5 * k + 3)) (p := p) ⟨p0, by omega⟩
  rw [qOuts_B hM ⟨p0, by omega⟩] at h1
  rcases zbit_01 (zand (qOuts M) (M (74 + 5 * k + 3))) p with e | e <;> rw [e] at h1 ⊢
  · by_cases e3 : M (46 + 4 * p + 3) = 0
    · rw [if_pos e3]; omega
    · rw [if_neg e3, if_neg (fun z => absurd (h1.mpr ⟨⟨p1, by omega⟩, z⟩) (by decide))]; omega
  · have := h1.mp rfl
    rw [if_neg (by omega), if_pos this.2]; omega
theorem qSeat_other {M : Int → Int} (hM : zOK M) (k : Int) : qSeat M (zand (qOuts M) (zxor (M (74 + 5 * k + 3)) (-1))) (M 3) = qOther M k := by
  have hm3 := hM.1.m3
  unfold qSeat qOther
  refine zsum_congr (fun p p0 p1 => ?_)
  have hU := hM.1.U (p := p) ⟨p0, by omega⟩
  have h1 := zbit_and (a := qOuts M) (c := zxor (M (74 + 5 * k + 3)) (-1)) (p := p) ⟨p0, by omega⟩
  rw [qOuts_B hM ⟨p0, by omega⟩, zbit_not ⟨p0, by omega⟩] at h1
  rcases zbit_01 (zand (qOuts M) (zxor (M (74 + 5 * k + 3)) (-1))) p with e | e <;> rw [e] at h1 ⊢
  · by_cases e3 : M (46 + 4 * p + 3) = 0
    · rw [if_pos e3]; omega
    · rw [if_neg e3, if_pos (Classical.byContradiction (fun z => absurd (h1.mpr ⟨⟨p1, by omega⟩, z⟩) (by decide)))]; omega
  · have := h1.mp rfl
    rw [if_neg (by omega), if_neg this.2]; omega
theorem qVoteO_q {M : Int → Int} (hM : zOK M) (a s k : Int) : qVoteO M a s (qOuts M) (M (74 + 5 * k + 3)) = qVotes M k s a := by
  unfold qVoteO qVotes
  rw [qSeat_one hM, qSeat_other hM, Int.add_comm (qOne M k), Int.add_comm (qOther M k), show (if s = 2 ∧ a = 0 then M 10 else 0) = (if a = 0 ∧ s = 2 then M 10 else 0) by (repeat' split) <;> omega]
theorem qGoO_q {M : Int → Int} (hM : zOK M) {k : Int} (hp : 0 ≤ M (74 + 5 * k + 0) ∧ M (74 + 5 * k + 0) < M 3) (s h : Int) : qGoO M k s h (qOuts M) (M (74 + 5 * k + 3)) = qGo M k s h := by
  unfold qGoO qGo
  rw [qVoteO_q hM, qFeltO_q hM hp]
theorem qVoteO_12 (M : Int → Int) (a s O Fo : Int) : qVoteO M a s O Fo = 1 ∨ qVoteO M a s O Fo = 2 := by unfold qVoteO; (repeat' split) <;> omega
theorem qGoO_bd (M : Int → Int) (k s h O Fo : Int) : 1 ≤ qGoO M k s h O Fo ∧ qGoO M k s h O Fo ≤ 3 := by
  unfold qGoO
  split
  · omega
  · split
    · omega
    · rcases qVoteO_12 M (if M 9 ≤ qFeltO M (M (74 + 5 * k + 0)) s k h O then 1 else 0) s O Fo with e | e <;> rw [e] <;> omega
theorem zOC.mb {M : Int → Int} (h : zOC M) {k : Int} (hk : 0 ≤ k ∧ k < M 4) : 0 ≤ M (74 + 5 * k + 0) ∧ M (74 + 5 * k + 0) < M 3 := ⟨(h.I.V (k := k) ⟨hk.1, by have := h.I.m4; omega⟩).1.1, h.mv k hk.1 hk.2⟩
noncomputable def qCarOf (M : Int → Int) (set s n : Int) : Int := zors (fun i => if zbit set i = 1 ∧ qGo M i s (M 6) = 1 then zshl 1 i else 0) n
theorem c_X1_carriedOf {G : zG} {lay : zLay} {σ C0 : zMem} {nx x b : Int} (hT : TopL lay x) {set s : Int} {M : Int → Int} (hA : CoAt b) (hR : CoR lay x C0 σ b M) (hM : zOC M) (hs : 0 ≤ s ∧ s < 5) : zMM G 7 KX1_carriedOf [zP (x + b), zI set, zI s] lay (tC x σ C0) nx (0, 0) (zY' (some (zI (qCarOf M set s (M 4)))) (fun q C => zFc b σ C0 q C) lay nx x) := by
  refine z_met' (L := [zP (x + b), zI set, zI s, zU, zU]) gX1_carriedOf.1 rfl rfl (Nat.le_of_ble_eq_true rfl) rfl ?_
  have hb0 := hA.b0 (by decide)
  have hx := hT.1
  have hne : x + b ≠ -1 := by omega
  have hI := hM.I
  have hm4 := hI.m4
  have h6 := hI.s 6 rfl (by omega)
  have ho := qOuts_256 hM.ol.1
  have hl : ∀ t : Int, 0 ≤ t → t ≤ M 4 → ∀ S C : zMem, zFc b σ C0 S C → zW G KX1_carriedOf 7 (zY' (some (zI (qCarOf M set s (M 4)))) (fun q C => zFc b σ C0 q C) lay nx x) 5 [zP (x + b), zI set, zI s, zI (qCarOf M set s t), zI t] [] lay (tC x S C) nx (0, 0) := by
    refine z_up (M 4) ?_ ?_
    · intro S C hC
      have hR := hR.fc hC
      refine z_il4 eX1_carriedOf_5 ?_
      refine z_al0 eX1_carriedOf_7 hne ?_
      first | refine z_ta0 lX1_47 eX1_carriedOf_8 rfl hT hA (by decide) rfl rfl ?_ | refine z_ta lX1_47 eX1_carriedOf_8 rfl hT hA ⟨by decide, by decide⟩ rfl rfl ?_
      first | refine z_tg0 (j := 0) lX1_161 eX1_carriedOf_11 rfl hT hA.mo (by decide) rfl rfl rfl ?_ | refine z_tg (j := 0) lX1_161 eX1_carriedOf_11 rfl hT hA.mo ⟨by decide, by decide⟩ rfl rfl rfl ?_
      rw [hR.1.mo.1]
      refine z_icmp_ge (tgt := 58) eX1_carriedOf_14 rfl ⟨⟨by omega, by omega⟩, ⟨by omega, by omega⟩⟩ (fun h14 => ?_) (fun h14 => (by exfalso; omega))
      refine z_il3 eX1_carriedOf_58 ?_
      refine z_ireturn eX1_carriedOf_59 rfl ?_
      exact zYe hC rfl
    · intro t t0 t1 ih S C hC
      have hR := hR.fc hC
      have z01 := zbit_01 set t
      have hg := qGo_bd M t s (M 6)
      rw [show qCarOf M set s (t + 1) = zor (qCarOf M set s t) (if zbit set t = 1 ∧ qGo M t s (M 6) = 1 then zshl 1 t else 0) from zors_s _ t0] at ih
      have hy : zbit set t = 1 ∧ qGo M t s (M 6) = 1 → ∀ S C : zMem, zFc b σ C0 S C → zW G KX1_carriedOf 7 (zY' (some (zI (qCarOf M set s (M 4)))) (fun q C => zFc b σ C0 q C) lay nx x) 5 [zP (x + b), zI set, zI s, zI (zor (qCarOf M set s t) (zshl 1 t)), zI (t + 1)] [] lay (tC x S C) nx (0, 0) := fun z => by rw [if_pos z] at ih; exact ih
      have hn : ¬ (zbit set t = 1 ∧ qGo M t s (M 6) = 1) → ∀ S C : zMem, zFc b σ C0 S C → zW G KX1_carriedOf 7 (zY' (some (zI (qCarOf M set s (M 4)))) (fun q C => zFc b σ C0 q C) lay nx x) 5 [zP (x + b), zI set, zI s, zI (qCarOf M set s t), zI (t + 1)] [] lay (tC x S C) nx (0, 0) := fun z => by rw [if_neg z, zor_0 (show zin (qCarOf M set s t) from zors_in _ t0)] at ih; exact ih
      refine z_il4 eX1_carriedOf_5 ?_
      refine z_al0 eX1_carriedOf_7 hne ?_
      first | refine z_ta0 lX1_47 eX1_carriedOf_8 rfl hT hA (by decide) rfl rfl ?_ | refine z_ta lX1_47 eX1_carriedOf_8 rfl hT hA ⟨by decide, by decide⟩ rfl rfl ?_
      first | refine z_tg0 (j := 0) lX1_161 eX1_carriedOf_11 rfl hT hA.mo (by decide) rfl rfl rfl ?_ | refine z_tg (j := 0) lX1_161 eX1_carriedOf_11 rfl hT hA.mo ⟨by decide, by decide⟩ rfl rfl rfl ?_
      rw [hR.1.mo.1]
      refine z_icmp_ge (tgt := 58) eX1_carriedOf_14 rfl ⟨⟨by omega, by omega⟩, ⟨by omega, by omega⟩⟩ (fun h14 => (by exfalso; omega)) (fun h14 => ?_)
      refine z_il1 eX1_carriedOf_17 ?_
      refine z_il4 eX1_carriedOf_18 ?_
      refine z_N2 eX1_carriedOf_20 vX1_101 rfl (Nat.le_of_ble_eq_true rfl) (Nat.le_of_ble_eq_true rfl) (c_X11_bitOf hT ⟨by omega, by omega⟩) ?_
      refine z_iconst eX1_carriedOf_23 ?_
      refine z_icmp_ne (tgt := 52) eX1_carriedOf_24 rfl ⟨⟨by omega, by omega⟩, ⟨by omega, by omega⟩⟩ (fun h24 => ?_) (fun h24 => ?_)
      · refine z_ii4 eX1_carriedOf_52 (Nat.ne_of_beq_eq_false rfl) ?_
        refine z_goto eX1_carriedOf_55 (tgt := 5) rfl ?_
        first | exact hy ⟨by omega, by omega⟩ _ _ h9 | exact hn (by omega) _ _ h9 | exact hn (by omega) _ _ hC | fail
      · refine z_al0 eX1_carriedOf_27 hne ?_
        refine z_il4 eX1_carriedOf_28 ?_
        refine z_il2 eX1_carriedOf_30 ?_
        refine z_al0 eX1_carriedOf_31 hne ?_
        first | refine z_ta0 lX1_40 eX1_carriedOf_32 rfl hT hA (by decide) rfl rfl ?_ | refine z_ta lX1_40 eX1_carriedOf_32 rfl hT hA ⟨by decide, by decide⟩ rfl rfl ?_
        first | refine z_tg0 (j := 1) lX1_164 eX1_carriedOf_35 rfl hT hA.we (by decide) rfl rfl rfl ?_ | refine z_tg (j := 1) lX1_164 eX1_carriedOf_35 rfl hT hA.we ⟨by decide, by decide⟩ rfl rfl rfl ?_
        rw [hR.1.we.1.2.1]
        refine z_V3y eX1_carriedOf_38 vX1_167 rfl rfl (Nat.le_of_ble_eq_true rfl) (Nat.le_of_ble_eq_true rfl) ((hA).L0 hT (by decide)) (c_X1_outcomeIn hT hA hR.1 hR.2 hM hs ⟨t0, t1⟩ ⟨by omega, by omega⟩ ⟨ho.1, by omega⟩) (fun s38 C38 hs38 => ?_)
        rw [qGoO_q hM.ol.1 (hM.mb ⟨t0, t1⟩)]
        have h9 := hC.trans hs38
        refine z_iconst eX1_carriedOf_41 ?_
        refine z_icmp_ne (tgt := 52) eX1_carriedOf_42 rfl ⟨⟨by omega, by omega⟩, ⟨by omega, by omega⟩⟩ (fun h42 => ?_) (fun h42 => ?_)
        · refine z_ii4 eX1_carriedOf_52 (Nat.ne_of_beq_eq_false rfl) ?_
          refine z_goto eX1_carriedOf_55 (tgt := 5) rfl ?_
          first | exact hy ⟨by omega, by omega⟩ _ _ h9 | exact hn (by omega) _ _ h9 | exact hn (by omega) _ _ hC | fail
        · refine z_il3 eX1_carriedOf_45 ?_
          refine z_iconst eX1_carriedOf_46 ?_
          refine z_il4 eX1_carriedOf_47 ?_
          refine z_ishl eX1_carriedOf_49 ?_
          refine z_ior eX1_carriedOf_50 ?_
          refine z_is3 eX1_carriedOf_51 (Nat.ne_of_beq_eq_false rfl) ?_
          refine z_ii4 eX1_carriedOf_52 (Nat.ne_of_beq_eq_false rfl) ?_
          refine z_goto eX1_carriedOf_55 (tgt := 5) rfl ?_
          first | exact hy ⟨by omega, by omega⟩ _ _ h9 | exact hn (by omega) _ _ h9 | exact hn (by omega) _ _ hC | fail
  refine z_iconst eX1_carriedOf_0 ?_
  refine z_is3 eX1_carriedOf_1 (Nat.ne_of_beq_eq_false rfl) ?_
  refine z_iconst eX1_carriedOf_2 ?_
  refine z_is4 eX1_carriedOf_3 (Nat.ne_of_beq_eq_false rfl) ?_
  exact hl 0 (by decide) hm4.1 _ _ (zFc.refl _ _ _)
