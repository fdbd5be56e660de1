/-! Swings counted. -/
theorem qSwOf_s (M : Int → Int) (p : Int) {t : Int} (h : 0 ≤ t) : qSwOf M p (t + 1) = qSwOf M p t + zbi (zand t (zxor (qVoters M) (-1)) = 0 ∧ qSwings M t p) := zsum_s _ h
theorem qSwOf_b (M : Int → Int) (p : Int) {t : Int} (h : 0 ≤ t) : 0 ≤ qSwOf M p t ∧ qSwOf M p t ≤ 1 * t := zsum_bnd h (fun s _ _ => by have := zbi_01 (zand s (zxor (qVoters M) (-1)) = 0 ∧ qSwings M s p); omega)
theorem c_X8_countSwings {G : zG} {lay : zLay} {σ C0 : zMem} {nx x : Int} (hT : TopL lay x) {M : Int → Int} (hR : SiR σ M) (hM : zOK M) : zMM G 4 KX8_countSwings [zP (x + 307)] lay (tC x σ C0) nx (0, 0) (zZ' none (fun q => zOut 308 1 σ q ∧ ∀ p, 0 ≤ p → p < 8 → q 308 p = qSwOf M p 256) lay C0 nx x) := by
  refine z_met' (L := [zP (x + 307), zU]) gX8_countSwings.1 rfl rfl (Nat.le_of_ble_eq_true rfl) rfl ?_
  have hA := SiAt
  have hx := hT.1
  have hne : x + 307 ≠ -1 := by omega
  have hl : ∀ t : Int, 0 ≤ t → t ≤ 256 → ∀ S : zMem, zOut 308 1 σ S → (∀ p, 0 ≤ p → p < 8 → S 308 p = qSwOf M p t) → zW G KX8_countSwings 4 (zZ' none (fun q => zOut 308 1 σ q ∧ ∀ p, 0 ≤ p → p < 8 → q 308 p = qSwOf M p 256) lay C0 nx x) 10 [zP (x + 307), zI t] [] lay (tC x S C0) nx (0, 0) := by
    refine z_up 256 ?_ ?_
    · intro S hS hK
      refine z_il1 eX8_countSwings_10 ?_
      refine z_sipush eX8_countSwings_11 (by decide) ?_
      refine z_icmp_ge (tgt := 47) eX8_countSwings_14 rfl ⟨⟨by omega, by omega⟩, ⟨by omega, by omega⟩⟩ (fun h14 => ?_) (fun h14 => (by exfalso; omega))
      refine z_return eX8_countSwings_47 rfl ?_
      exact zZv ⟨hS, hK⟩
    · intro t t0 t1 ih S hS hK
      have hR : SiR S M := hR.out (hS _ (by decide)) (hS _ (by decide))
      have hza := zand_in t (zxor (qVoters M) (-1))
      refine z_il1 eX8_countSwings_10 ?_
      refine z_sipush eX8_countSwings_11 (by decide) ?_
      refine z_icmp_ge (tgt := 47) eX8_countSwings_14 rfl ⟨⟨by omega, by omega⟩, ⟨by omega, by omega⟩⟩ (fun h14 => (by exfalso; omega)) (fun h14 => ?_)
      refine z_il1 eX8_countSwings_17 ?_
      refine z_al0 eX8_countSwings_18 hne ?_
      first | refine z_tg0 (j := 0) lX8_24 eX8_countSwings_19 rfl hT hA (by decide) rfl rfl rfl ?_ | refine z_tg (j := 0) lX8_24 eX8_countSwings_19 rfl hT hA ⟨by decide, by decide⟩ rfl rfl rfl ?_
      rw [hR.pr]
      refine z_iconst eX8_countSwings_22 ?_
      refine z_ixor eX8_countSwings_23 ?_
      refine z_iand eX8_countSwings_24 ?_
      refine z_if_ne (tgt := 41) eX8_countSwings_25 rfl hza (fun h25 => ?_) (fun h25 => ?_)
      · refine z_ii1 eX8_countSwings_41 (Nat.ne_of_beq_eq_false rfl) ?_
        refine z_goto eX8_countSwings_44 (tgt := 10) rfl ?_
        first | exact ih _ (hS.trans hs38.1) (fun p p0 p1 => by rw [hs38.2 p p0 p1, hK p p0 p1, qSwOf_s M p t0]; congr 1; exact zbi_iff ⟨fun z => ⟨by omega, z⟩, fun z => z.2⟩) | exact ih _ hS (fun p p0 p1 => by rw [hK p p0 p1, qSwOf_s M p t0, zbi_f (fun z => h33 z.2.2.1), Int.add_zero]) | exact ih _ hS (fun p p0 p1 => by rw [hK p p0 p1, qSwOf_s M p t0, zbi_f (fun z => h25 z.1), Int.add_zero]) | fail
      · refine z_al0 eX8_countSwings_28 hne ?_
        refine z_il1 eX8_countSwings_29 ?_
        refine z_V1 eX8_countSwings_30 vX8_55 rfl rfl (Nat.le_of_ble_eq_true rfl) (Nat.le_of_ble_eq_true rfl) ((hA).L0 hT (by decide)) (c_X8_isWinning hT hR (qSub_z (by omega)) hM) ?_
        refine z_ifb_eq (tgt := 41) eX8_countSwings_33 rfl (fun h33 => ?_) (fun h33 => ?_)
        · refine z_ii1 eX8_countSwings_41 (Nat.ne_of_beq_eq_false rfl) ?_
          refine z_goto eX8_countSwings_44 (tgt := 10) rfl ?_
          first | exact ih _ (hS.trans hs38.1) (fun p p0 p1 => by rw [hs38.2 p p0 p1, hK p p0 p1, qSwOf_s M p t0]; congr 1; exact zbi_iff ⟨fun z => ⟨by omega, z⟩, fun z => z.2⟩) | exact ih _ hS (fun p p0 p1 => by rw [hK p p0 p1, qSwOf_s M p t0, zbi_f (fun z => h33 z.2.2.1), Int.add_zero]) | exact ih _ hS (fun p p0 p1 => by rw [hK p p0 p1, qSwOf_s M p t0, zbi_f (fun z => h25 z.1), Int.add_zero]) | fail
        · refine z_al0 eX8_countSwings_36 hne ?_
          refine z_il1 eX8_countSwings_37 ?_
          refine z_V1vz eX8_countSwings_38 vX8_59 rfl rfl (Nat.le_of_ble_eq_true rfl) (Nat.le_of_ble_eq_true rfl) ((hA).L0 hT (by decide)) (c_X8_addSwings hT hR (qSub_z (by omega)) hM h33 (fun i i0 i1 => by rw [hK i i0 i1]; have := qSwOf_b M i t0; omega)) (fun s38 hs38 => ?_)
          refine z_ii1 eX8_countSwings_41 (Nat.ne_of_beq_eq_false rfl) ?_
          refine z_goto eX8_countSwings_44 (tgt := 10) rfl ?_
          first | exact ih _ (hS.trans hs38.1) (fun p p0 p1 => by rw [hs38.2 p p0 p1, hK p p0 p1, qSwOf_s M p t0]; congr 1; exact zbi_iff ⟨fun z => ⟨by omega, z⟩, fun z => z.2⟩) | exact ih _ hS (fun p p0 p1 => by rw [hK p p0 p1, qSwOf_s M p t0, zbi_f (fun z => h33 z.2.2.1), Int.add_zero]) | exact ih _ hS (fun p p0 p1 => by rw [hK p p0 p1, qSwOf_s M p t0, zbi_f (fun z => h25 z.1), Int.add_zero]) | fail
  refine z_al0 eX8_countSwings_0 hne ?_
  first | refine z_ta0 lX8_9 eX8_countSwings_1 rfl hT hA (by decide) rfl rfl ?_ | refine z_ta lX8_9 eX8_countSwings_1 rfl hT hA ⟨by decide, by decide⟩ rfl rfl ?_
  refine z_iconst eX8_countSwings_4 ?_
  refine z_S2v eX8_countSwings_5 vX8_49 rfl rfl (Nat.le_of_ble_eq_true rfl) (Nat.le_of_ble_eq_true rfl) (c_J7_fill_53178 (by omega) (hA.LL hT ⟨by decide, by decide⟩) ⟨by decide, by decide⟩) ?_
  rw [tC_fil (hA.1 _ (by decide) (by decide)) (fun _ => hA.nn ⟨by decide, by decide⟩ rfl)]
  refine z_iconst eX8_countSwings_8 ?_
  refine z_is1 eX8_countSwings_9 (Nat.ne_of_beq_eq_false rfl) ?_
  exact hl 0 (by decide) (by decide) _ (fun i hi => by funext j; unfold zfil; rw [if_neg (by omega)]) (fun p p0 p1 => by unfold zfil; rw [if_pos ⟨rfl, p0, p1⟩]; rfl)
