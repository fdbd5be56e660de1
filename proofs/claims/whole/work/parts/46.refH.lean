/-! Members and motions, asked. -/
theorem m_X12_isFor {G : zG} {lay : zLay} {σ C0 : zMem} {nx x : Int} {p : Int} (hR : RefL lay x) (hm : 0 ≤ σ 1 4 ∧ σ 1 4 ≤ 8) : zMM G 2 KX12_isFor [zP x, zI p] lay (rC x σ C0) nx (0, 0) (zR (some (zI (zors (fun k => if zbit (σ 1 (74 + 5 * k + 3)) p = 1 then zshl 1 k else 0) (σ 1 4)))) lay (rC x (σ) C0) nx) := by
  refine z_met' (L := [zP x, zI p, zU, zU]) gX12_isFor.1 rfl rfl (Nat.le_of_ble_eq_true rfl) rfl ?_
  have hl : ∀ n : Int, 0 ≤ n → n ≤ σ 1 4 → zW G KX12_isFor 2 (zR (some (zI (zors (fun k => if zbit (σ 1 (74 + 5 * k + 3)) p = 1 then zshl 1 k else 0) (σ 1 4)))) lay (rC x (σ) C0) nx) 4 [zP x, zI p, zI (zors (fun k => if zbit (σ 1 (74 + 5 * k + 3)) p = 1 then zshl 1 k else 0) n), zI n] [] lay (rC x (σ) C0) nx (0, 0) := by
    refine z_up (σ 1 4) ?_ ?_
    · refine z_il3 eX12_isFor_4 ?_
      refine z_al0 eX12_isFor_5 hR.ne ?_
      refine z_ra lX12_7 eX12_isFor_6 rfl hR rfl ?_
      refine z_iconst eX12_isFor_9 ?_
      refine z_rl eX12_isFor_10 hR (by decide) rfl rfl ⟨by omega, by omega⟩ ?_
      refine z_icmp_ge (tgt := 43) eX12_isFor_11 rfl ⟨⟨by omega, by omega⟩, ⟨by omega, by omega⟩⟩ (fun h11 => ?_) (fun h11 => (by exfalso; omega))
      refine z_il2 eX12_isFor_43 ?_
      refine z_ireturn eX12_isFor_44 rfl ?_
      first | exact ⟨rfl, rfl, rfl, rfl⟩ | exact zRb1 (by omega) | exact zRb0 (by omega) | exact zRe (by omega)
    · intro n h0 h1 ih
      refine z_il3 eX12_isFor_4 ?_
      refine z_al0 eX12_isFor_5 hR.ne ?_
      refine z_ra lX12_7 eX12_isFor_6 rfl hR rfl ?_
      refine z_iconst eX12_isFor_9 ?_
      refine z_rl eX12_isFor_10 hR (by decide) rfl rfl ⟨by omega, by omega⟩ ?_
      refine z_icmp_ge (tgt := 43) eX12_isFor_11 rfl ⟨⟨by omega, by omega⟩, ⟨by omega, by omega⟩⟩ (fun h11 => (by exfalso; omega)) (fun h11 => ?_)
      refine z_il2 eX12_isFor_14 ?_
      refine z_al0 eX12_isFor_15 hR.ne ?_
      refine z_il3 eX12_isFor_16 ?_
      refine z_iconst eX12_isFor_17 ?_
      refine z_V2 eX12_isFor_18 vX12_55 rfl rfl (Nat.le_of_ble_eq_true rfl) (Nat.le_of_ble_eq_true rfl) hR.x (m_X12_ofMotion hR ⟨by omega, by omega⟩ ⟨by omega, by omega⟩) ?_
      refine z_il1 eX12_isFor_21 ?_
      refine z_S2 eX12_isFor_22 vX12_290 rfl rfl (Nat.le_of_ble_eq_true rfl) (Nat.le_of_ble_eq_true rfl) (m_X12_isOf ) ?_
      refine z_ifb_eq (tgt := 34) eX12_isFor_25 rfl (fun h25 => ?_) (fun h25 => ?_)
      · refine z_iconst eX12_isFor_34 ?_
        refine z_ior eX12_isFor_35 ?_
        refine z_is2 eX12_isFor_36 (Nat.ne_of_beq_eq_false rfl) ?_
        refine z_ii3 eX12_isFor_37 (Nat.ne_of_beq_eq_false rfl) ?_
        refine z_goto eX12_isFor_40 (tgt := 4) rfl ?_
        first | (rw [zors_s _ h0, if_pos h25] at ih; exact ih) | (rw [zors_s _ h0, if_neg h25] at ih; exact ih)
      · refine z_iconst eX12_isFor_28 ?_
        refine z_il3 eX12_isFor_29 ?_
        refine z_ishl eX12_isFor_30 ?_
        refine z_goto eX12_isFor_31 (tgt := 35) rfl ?_
        refine z_ior eX12_isFor_35 ?_
        refine z_is2 eX12_isFor_36 (Nat.ne_of_beq_eq_false rfl) ?_
        refine z_ii3 eX12_isFor_37 (Nat.ne_of_beq_eq_false rfl) ?_
        refine z_goto eX12_isFor_40 (tgt := 4) rfl ?_
        first | (rw [zors_s _ h0, if_pos h25] at ih; exact ih) | (rw [zors_s _ h0, if_neg h25] at ih; exact ih)
  refine z_iconst eX12_isFor_0 ?_
  refine z_is2 eX12_isFor_1 (Nat.ne_of_beq_eq_false rfl) ?_
  refine z_iconst eX12_isFor_2 ?_
  refine z_is3 eX12_isFor_3 (Nat.ne_of_beq_eq_false rfl) ?_
  exact hl 0 (by omega) (by omega)
theorem m_X12_seatsOut {G : zG} {lay : zLay} {σ C0 : zMem} {nx x : Int} (hR : RefL lay x) (hm : 0 ≤ σ 1 3 ∧ σ 1 3 ≤ 7) : zMM G 2 KX12_seatsOut [zP x] lay (rC x σ C0) nx (0, 0) (zR (some (zI (zsum (fun p => σ 1 (46 + 4 * p + 3) * σ 1 (46 + 4 * p + 1)) (σ 1 3)))) lay (rC x (σ) C0) nx) := by
  refine z_met' (L := [zP x, zU, zU]) gX12_seatsOut.1 rfl rfl (Nat.le_of_ble_eq_true rfl) rfl ?_
  have hl : ∀ n : Int, 0 ≤ n → n ≤ σ 1 3 → zW G KX12_seatsOut 2 (zR (some (zI (zsum (fun p => σ 1 (46 + 4 * p + 3) * σ 1 (46 + 4 * p + 1)) (σ 1 3)))) lay (rC x (σ) C0) nx) 4 [zP x, zI (zsum (fun p => σ 1 (46 + 4 * p + 3) * σ 1 (46 + 4 * p + 1)) n), zI n] [] lay (rC x (σ) C0) nx (0, 0) := by
    refine z_up (σ 1 3) ?_ ?_
    · refine z_il2 eX12_seatsOut_4 ?_
      refine z_al0 eX12_seatsOut_5 hR.ne ?_
      refine z_ra lX12_7 eX12_seatsOut_6 rfl hR rfl ?_
      refine z_iconst eX12_seatsOut_9 ?_
      refine z_rl eX12_seatsOut_10 hR (by decide) rfl rfl ⟨by omega, by omega⟩ ?_
      refine z_icmp_ge (tgt := 36) eX12_seatsOut_11 rfl ⟨⟨by omega, by omega⟩, ⟨by omega, by omega⟩⟩ (fun h11 => ?_) (fun h11 => (by exfalso; omega))
      refine z_il1 eX12_seatsOut_36 ?_
      refine z_ireturn eX12_seatsOut_37 rfl ?_
      first | exact ⟨rfl, rfl, rfl, rfl⟩ | exact zRb1 (by omega) | exact zRb0 (by omega) | exact zRe (by omega)
    · intro n h0 h1 ih
      refine z_il2 eX12_seatsOut_4 ?_
      refine z_al0 eX12_seatsOut_5 hR.ne ?_
      refine z_ra lX12_7 eX12_seatsOut_6 rfl hR rfl ?_
      refine z_iconst eX12_seatsOut_9 ?_
      refine z_rl eX12_seatsOut_10 hR (by decide) rfl rfl ⟨by omega, by omega⟩ ?_
      refine z_icmp_ge (tgt := 36) eX12_seatsOut_11 rfl ⟨⟨by omega, by omega⟩, ⟨by omega, by omega⟩⟩ (fun h11 => (by exfalso; omega)) (fun h11 => ?_)
      refine z_il1 eX12_seatsOut_14 ?_
      refine z_al0 eX12_seatsOut_15 hR.ne ?_
      refine z_il2 eX12_seatsOut_16 ?_
      refine z_iconst eX12_seatsOut_17 ?_
      refine z_V2 eX12_seatsOut_18 vX12_62 rfl rfl (Nat.le_of_ble_eq_true rfl) (Nat.le_of_ble_eq_true rfl) hR.x (m_X12_of hR ⟨by omega, by omega⟩ ⟨by omega, by omega⟩) ?_
      refine z_al0 eX12_seatsOut_21 hR.ne ?_
      refine z_il2 eX12_seatsOut_22 ?_
      refine z_iconst eX12_seatsOut_23 ?_
      refine z_V2 eX12_seatsOut_24 vX12_62 rfl rfl (Nat.le_of_ble_eq_true rfl) (Nat.le_of_ble_eq_true rfl) hR.x (m_X12_of hR ⟨by omega, by omega⟩ ⟨by omega, by omega⟩) ?_
      refine z_imul eX12_seatsOut_27 ?_
      refine z_iadd eX12_seatsOut_28 ?_
      refine z_is1 eX12_seatsOut_29 (Nat.ne_of_beq_eq_false rfl) ?_
      refine z_ii2 eX12_seatsOut_30 (Nat.ne_of_beq_eq_false rfl) ?_
      refine z_goto eX12_seatsOut_33 (tgt := 4) rfl ?_
      rw [zsum_s _ h0] at ih; exact ih
  refine z_iconst eX12_seatsOut_0 ?_
  refine z_is1 eX12_seatsOut_1 (Nat.ne_of_beq_eq_false rfl) ?_
  refine z_iconst eX12_seatsOut_2 ?_
  refine z_is2 eX12_seatsOut_3 (Nat.ne_of_beq_eq_false rfl) ?_
  exact hl 0 (by omega) (by omega)
/-- what asking with two bounds throws -/
noncomputable def qThr2 (p q : Prop) : Int := @ite Int p (Classical.propDecidable p) (@ite Int q (Classical.propDecidable q) 0 2) 1
theorem qThr2_1 {p q : Prop} (h : ¬ p) : qThr2 p q = 1 := by unfold qThr2; rw [if_neg h]
theorem qThr2_2 {p q : Prop} (h : p) (h2 : ¬ q) : qThr2 p q = 2 := by unfold qThr2; rw [if_pos h, if_neg h2]
theorem qThr2_0 {p q : Prop} (h : p) (h2 : q) : qThr2 p q = 0 := by unfold qThr2; rw [if_pos h, if_pos h2]
theorem m_X12_motion {G : zG} {lay : zLay} {σ C0 : zMem} {nx x : Int} {k w : Int} (hR : RefL lay x) (hk : zin k) (hw : zin w) (hm : 0 ≤ σ 1 4 ∧ σ 1 4 ≤ 8) (hs : ∀ t, 0 ≤ t → t < 12 → zin (σ 1 (114 + t))) : zMM G 3 KX12_motion [zP x, zI k, zI w] lay (rC x σ C0) nx (0, 0) (zR (some (zI (if qThr2 (0 ≤ k ∧ k < σ 1 4) (0 ≤ w ∧ w ≤ 5) = 0 then (if w < 5 then σ 1 (74 + 5 * k + w) else qstands (σ 1) k 12) else 0))) lay (rC x (zset σ 0 0 (qThr2 (0 ≤ k ∧ k < σ 1 4) (0 ≤ w ∧ w ≤ 5))) C0) nx) := by
  refine z_met' (L := [zP x, zI k, zI w]) gX12_motion.1 rfl rfl (Nat.le_of_ble_eq_true rfl) rfl ?_
  obtain ⟨k1, k2⟩ := hk
  obtain ⟨w1, w2⟩ := hw
  have e1 : ∀ v j, zset σ 0 0 v 1 j = σ 1 j := fun v j => by rw [zset_o (by decide)]
  have e2 : ∀ v, zset σ 0 0 v 1 = σ 1 := fun v => by rw [zset_o (by decide)]
  refine z_al0 eX12_motion_0 hR.ne ?_
  refine z_al0 eX12_motion_1 hR.ne ?_
  refine z_il1 eX12_motion_2 ?_
  refine z_V1 eX12_motion_3 vX12_326 rfl rfl (Nat.le_of_ble_eq_true rfl) (Nat.le_of_ble_eq_true rfl) hR.x (m_X12_isMotion hR ⟨by omega, by omega⟩ hm) ?_
  refine z_ifb_ne (tgt := 13) eX12_motion_6 rfl (fun h6 => ?_) (fun h6 => ?_)
  · refine z_il2 eX12_motion_13 ?_
    refine z_iconst eX12_motion_14 ?_
    refine z_iconst eX12_motion_15 ?_
    refine z_S3 eX12_motion_16 vX12_51 rfl rfl (Nat.le_of_ble_eq_true rfl) (Nat.le_of_ble_eq_true rfl) (m_X12_isIn (by refine ⟨?_, ?_, ?_⟩ <;> first | omega | decide | assumption)) ?_
    refine z_ifb_ne (tgt := 26) eX12_motion_19 rfl (fun h19 => ?_) (fun h19 => ?_)
    · refine z_iconst eX12_motion_26 ?_
      refine z_rp (j := 0) lX12_48 eX12_motion_27 rfl hR rfl rfl ?_
      refine z_al0 eX12_motion_30 hR.ne ?_
      refine z_rg (j := 0) lX12_48 eX12_motion_31 rfl hR rfl rfl ?_
      rw [zset_eq]
      refine z_if_le (tgt := 39) eX12_motion_34 rfl ⟨by omega, by omega⟩ (fun h34 => ?_) (fun h34 => (by exfalso; omega))
      refine z_il2 eX12_motion_39 ?_
      refine z_iconst eX12_motion_40 ?_
      refine z_icmp_ge (tgt := 53) eX12_motion_41 rfl ⟨⟨by omega, by omega⟩, ⟨by omega, by omega⟩⟩ (fun h41 => ?_) (fun h41 => ?_)
      · refine z_al0 eX12_motion_53 hR.ne ?_
        refine z_il1 eX12_motion_54 ?_
        refine z_V1 eX12_motion_55 vX12_144 rfl rfl (Nat.le_of_ble_eq_true rfl) (Nat.le_of_ble_eq_true rfl) hR.x (m_X12_standsIn hR ⟨by omega, by omega⟩ (by rw [e2]; exact hs)) ?_
        try rw [e2]
        refine z_ireturn eX12_motion_58 rfl ?_
        rw [qThr2_0 h6 h19, if_pos rfl]; first | (rw [if_pos (by omega)]; exact ⟨rfl, rfl, rfl, rfl⟩) | (rw [if_neg (by omega)]; exact ⟨rfl, rfl, rfl, rfl⟩)
      · refine z_al0 eX12_motion_44 hR.ne ?_
        refine z_il1 eX12_motion_45 ?_
        refine z_il2 eX12_motion_46 ?_
        refine z_V2 eX12_motion_47 vX12_55 rfl rfl (Nat.le_of_ble_eq_true rfl) (Nat.le_of_ble_eq_true rfl) hR.x (m_X12_ofMotion hR ⟨by omega, by omega⟩ ⟨by omega, by omega⟩) ?_
        refine z_goto eX12_motion_50 (tgt := 58) rfl ?_
        try rw [e2]
        refine z_ireturn eX12_motion_58 rfl ?_
        rw [qThr2_0 h6 h19, if_pos rfl]; first | (rw [if_pos (by omega)]; exact ⟨rfl, rfl, rfl, rfl⟩) | (rw [if_neg (by omega)]; exact ⟨rfl, rfl, rfl, rfl⟩)
    · refine z_iconst eX12_motion_22 ?_
      refine z_goto eX12_motion_23 (tgt := 27) rfl ?_
      refine z_rp (j := 0) lX12_48 eX12_motion_27 rfl hR rfl rfl ?_
      refine z_al0 eX12_motion_30 hR.ne ?_
      refine z_rg (j := 0) lX12_48 eX12_motion_31 rfl hR rfl rfl ?_
      rw [zset_eq]
      refine z_if_le (tgt := 39) eX12_motion_34 rfl ⟨by omega, by omega⟩ (fun h34 => (by exfalso; omega)) (fun h34 => ?_)
      refine z_iconst eX12_motion_37 ?_
      refine z_ireturn eX12_motion_38 rfl ?_
      first | (rw [qThr2_1 h6, if_neg (by decide)]; exact ⟨rfl, rfl, rfl, rfl⟩) | (rw [qThr2_2 h6 h19, if_neg (by decide)]; exact ⟨rfl, rfl, rfl, rfl⟩)
  · refine z_iconst eX12_motion_9 ?_
    refine z_goto eX12_motion_10 (tgt := 27) rfl ?_
    refine z_rp (j := 0) lX12_48 eX12_motion_27 rfl hR rfl rfl ?_
    refine z_al0 eX12_motion_30 hR.ne ?_
    refine z_rg (j := 0) lX12_48 eX12_motion_31 rfl hR rfl rfl ?_
    rw [zset_eq]
    refine z_if_le (tgt := 39) eX12_motion_34 rfl ⟨by omega, by omega⟩ (fun h34 => (by exfalso; omega)) (fun h34 => ?_)
    refine z_iconst eX12_motion_37 ?_
    refine z_ireturn eX12_motion_38 rfl ?_
    first | (rw [qThr2_1 h6, if_neg (by decide)]; exact ⟨rfl, rfl, rfl, rfl⟩) | (rw [qThr2_2 h6 h19, if_neg (by decide)]; exact ⟨rfl, rfl, rfl, rfl⟩)
theorem zsum_le {f : Int → Int} {c : Int} : ∀ m : Nat, (∀ t : Int, 0 ≤ t → t < m → 0 ≤ f t ∧ f t ≤ c) → 0 ≤ zsum f m ∧ zsum f m ≤ c * m := by
  intro m
  induction m with
  | zero => intro _; rw [show ((0 : Nat) : Int) = 0 from rfl, zsum_0]; omega
  | succ m ih =>
    intro h
    rw [show ((m + 1 : Nat) : Int) = (m : Int) + 1 by omega, zsum_s _ (by omega), Int.mul_add, Int.mul_one]
    have h1 := ih (fun t h0 h1 => h t h0 (by omega))
    have h2 := h m (by omega) (by omega)
    omega
theorem zInv.U {M : Int → Int} (h : zInv M) {p : Int} (hp : 0 ≤ p ∧ p < 7) : (0 ≤ M (46 + 4 * p + 0) ∧ M (46 + 4 * p + 0) ≤ 7) ∧ (0 ≤ M (46 + 4 * p + 1) ∧ M (46 + 4 * p + 1) ≤ 20) ∧ (0 ≤ M (46 + 4 * p + 2) ∧ M (46 + 4 * p + 2) ≤ 1) ∧ (0 ≤ M (46 + 4 * p + 3) ∧ M (46 + 4 * p + 3) ≤ 1) := by
  refine ⟨?_, ?_, ?_, ?_⟩
  · exact h.at (lo := 0) (hi := 7) (by rw [zBd_U hp ⟨by omega, by omega⟩]; rfl) ⟨by omega, by omega⟩ (by unfold zFree; omega)
  · exact h.at (lo := 0) (hi := 20) (by rw [zBd_U hp ⟨by omega, by omega⟩]; rfl) ⟨by omega, by omega⟩ (by unfold zFree; omega)
  · exact h.at (lo := 0) (hi := 1) (by rw [zBd_U hp ⟨by omega, by omega⟩]; rfl) ⟨by omega, by omega⟩ (by unfold zFree; omega)
  · exact h.at (lo := 0) (hi := 1) (by rw [zBd_U hp ⟨by omega, by omega⟩]; rfl) ⟨by omega, by omega⟩ (by unfold zFree; omega)
def qSeatsOut (M : Int → Int) : Int := zsum (fun p => M (46 + 4 * p + 3) * M (46 + 4 * p + 1)) (M 3)
theorem qSeatsOut_bd {M : Int → Int} (h : zInv M) : 0 ≤ qSeatsOut M ∧ qSeatsOut M ≤ 140 := by
  unfold qSeatsOut
  have h3 := h.m3
  have := zsum_le (f := fun p => M (46 + 4 * p + 3) * M (46 + 4 * p + 1)) (c := 20) (M 3).toNat (fun t h0 h1 => by
    obtain ⟨_, u1, _, u3⟩ := h.U (p := t) ⟨h0, by omega⟩
    have e : M (46 + 4 * t + 3) = 0 ∨ M (46 + 4 * t + 3) = 1 := by omega
    rcases e with e | e <;> rw [e] <;> omega)
  rw [Int.toNat_of_nonneg h3.1] at this
  omega
theorem m_X12_seatsOut' {G : zG} {lay : zLay} {σ C0 : zMem} {nx x v : Int} (hR : RefL lay x) (h : zOK (σ 1)) : zMM G 2 KX12_seatsOut [zP x] lay (rC x (zset σ 0 0 v) C0) nx (0, 0) (zR (some (zI (qSeatsOut (σ 1)))) lay (rC x (zset σ 0 0 v) C0) nx) := by
  have e : zset σ 0 0 v 1 = σ 1 := zset_o (by decide)
  have := m_X12_seatsOut (G := G) (C0 := C0) (nx := nx) (σ := zset σ 0 0 v) hR (by rw [e]; exact h.1.m3)
  rw [e] at this
  exact this
noncomputable def qMember (M : Int → Int) (p w : Int) : Int :=
  if qThr2 (0 ≤ p ∧ p < M 3) (0 ≤ w ∧ w ≤ 5) = 0 then (if w < 4 then M (46 + 4 * p + w) else if w = 5 then zors (fun k => if zbit (M (74 + 5 * k + 3)) p = 1 then zshl 1 k else 0) (M 4) else if M (46 + 4 * p + 3) = 0 ∨ qSeatsOut M = 0 then 0 else 100 * M (46 + 4 * p + 1) / qSeatsOut M) else 0
theorem m_X12_member {G : zG} {lay : zLay} {σ C0 : zMem} {nx x : Int} {p w : Int} (hR : RefL lay x) (hp : zin p) (hw : zin w) (h : zOK (σ 1)) : zMM G 3 KX12_member [zP x, zI p, zI w] lay (rC x σ C0) nx (0, 0) (zR (some (zI (qMember (σ 1) p w))) lay (rC x (zset σ 0 0 (qThr2 (0 ≤ p ∧ p < σ 1 3) (0 ≤ w ∧ w ≤ 5))) C0) nx) := by
  refine z_met' (L := [zP x, zI p, zI w]) gX12_member.1 rfl rfl (Nat.le_of_ble_eq_true rfl) rfl ?_
  obtain ⟨p1, p2⟩ := hp
  obtain ⟨w1, w2⟩ := hw
  have hm := h.1.m3
  have hm4 := h.1.m4
  have hb := qSeatsOut_bd h.1
  have e2 : ∀ v, zset σ 0 0 v 1 = σ 1 := fun v => by rw [zset_o (by decide)]
  unfold qMember
  by_cases h6' : 0 ≤ p ∧ p < σ 1 3
  · have hu := h.1.U (p := p) ⟨by omega, by omega⟩
    refine z_al0 eX12_member_0 hR.ne ?_
    refine z_al0 eX12_member_1 hR.ne ?_
    refine z_il1 eX12_member_2 ?_
    refine z_V1 eX12_member_3 vX12_317 rfl rfl (Nat.le_of_ble_eq_true rfl) (Nat.le_of_ble_eq_true rfl) hR.x (m_X12_isMember hR ⟨by omega, by omega⟩ hm) ?_
    refine z_ifb_ne (tgt := 13) eX12_member_6 rfl (fun h6 => ?_) (fun h6 => absurd h6' h6)
    refine z_il2 eX12_member_13 ?_
    refine z_iconst eX12_member_14 ?_
    refine z_iconst eX12_member_15 ?_
    refine z_S3 eX12_member_16 vX12_51 rfl rfl (Nat.le_of_ble_eq_true rfl) (Nat.le_of_ble_eq_true rfl) (m_X12_isIn (by refine ⟨?_, ?_, ?_⟩ <;> first | omega | decide | assumption)) ?_
    refine z_ifb_ne (tgt := 26) eX12_member_19 rfl (fun h19 => ?_) (fun h19 => ?_)
    · refine z_iconst eX12_member_26 ?_
      refine z_rp (j := 0) lX12_48 eX12_member_27 rfl hR rfl rfl ?_
      refine z_al0 eX12_member_30 hR.ne ?_
      refine z_rg (j := 0) lX12_48 eX12_member_31 rfl hR rfl rfl ?_
      rw [zset_eq]
      refine z_if_le (tgt := 39) eX12_member_34 rfl ⟨by omega, by omega⟩ (fun h34 => ?_) (fun h34 => (by exfalso; omega))
      refine z_il2 eX12_member_39 ?_
      refine z_iconst eX12_member_40 ?_
      refine z_icmp_ge (tgt := 51) eX12_member_41 rfl ⟨⟨by omega, by omega⟩, ⟨by omega, by omega⟩⟩ (fun h41 => ?_) (fun h41 => ?_)
      · refine z_il2 eX12_member_51 ?_
        refine z_iconst eX12_member_52 ?_
        refine z_icmp_ne (tgt := 62) eX12_member_53 rfl ⟨⟨by omega, by omega⟩, ⟨by omega, by omega⟩⟩ (fun h53 => ?_) (fun h53 => ?_)
        · refine z_al0 eX12_member_62 hR.ne ?_
          refine z_il1 eX12_member_63 ?_
          refine z_iconst eX12_member_64 ?_
          refine z_V2 eX12_member_65 vX12_62 rfl rfl (Nat.le_of_ble_eq_true rfl) (Nat.le_of_ble_eq_true rfl) hR.x (m_X12_of hR ⟨by omega, by omega⟩ ⟨by omega, by omega⟩) ?_
          rw [e2]
          refine z_if_eq (tgt := 78) eX12_member_68 rfl ⟨by omega, by omega⟩ (fun h68 => ?_) (fun h68 => ?_)
          · refine z_iconst eX12_member_78 ?_
            refine z_goto eX12_member_79 (tgt := 96) rfl ?_
            refine z_ireturn eX12_member_96 rfl ?_
            rw [qThr2_0 h6' h19, if_pos rfl, if_neg (by omega), if_neg (by omega)]; first | (rw [if_pos (Or.inl h68)]; exact ⟨rfl, rfl, rfl, rfl⟩) | (rw [if_pos (Or.inr h75)]; exact ⟨rfl, rfl, rfl, rfl⟩) | (rw [if_neg (fun z => z.elim h68 h75)]; exact ⟨rfl, rfl, rfl, rfl⟩)
          · refine z_al0 eX12_member_71 hR.ne ?_
            refine z_V0 eX12_member_72 vX12_323 rfl rfl (Nat.le_of_ble_eq_true rfl) (Nat.le_of_ble_eq_true rfl) hR.x (m_X12_seatsOut' hR h) ?_
            refine z_if_ne (tgt := 82) eX12_member_75 rfl ⟨by omega, by omega⟩ (fun h75 => ?_) (fun h75 => ?_)
            · refine z_bipush eX12_member_82 (by decide) ?_
              refine z_al0 eX12_member_84 hR.ne ?_
              refine z_il1 eX12_member_85 ?_
              refine z_iconst eX12_member_86 ?_
              refine z_V2 eX12_member_87 vX12_62 rfl rfl (Nat.le_of_ble_eq_true rfl) (Nat.le_of_ble_eq_true rfl) hR.x (m_X12_of hR ⟨by omega, by omega⟩ ⟨by omega, by omega⟩) ?_
              rw [e2]
              refine z_imul eX12_member_90 ?_
              refine z_al0 eX12_member_91 hR.ne ?_
              refine z_V0 eX12_member_92 vX12_323 rfl rfl (Nat.le_of_ble_eq_true rfl) (Nat.le_of_ble_eq_true rfl) hR.x (m_X12_seatsOut' hR h) ?_
              refine z_idiv eX12_member_95 ⟨by omega, by omega, by omega, by omega⟩ ?_
              refine z_ireturn eX12_member_96 rfl ?_
              rw [qThr2_0 h6' h19, if_pos rfl, if_neg (by omega), if_neg (by omega)]; first | (rw [if_pos (Or.inl h68)]; exact ⟨rfl, rfl, rfl, rfl⟩) | (rw [if_pos (Or.inr h75)]; exact ⟨rfl, rfl, rfl, rfl⟩) | (rw [if_neg (fun z => z.elim h68 h75)]; exact ⟨rfl, rfl, rfl, rfl⟩)
            · refine z_iconst eX12_member_78 ?_
              refine z_goto eX12_member_79 (tgt := 96) rfl ?_
              refine z_ireturn eX12_member_96 rfl ?_
              rw [qThr2_0 h6' h19, if_pos rfl, if_neg (by omega), if_neg (by omega)]; first | (rw [if_pos (Or.inl h68)]; exact ⟨rfl, rfl, rfl, rfl⟩) | (rw [if_pos (Or.inr h75)]; exact ⟨rfl, rfl, rfl, rfl⟩) | (rw [if_neg (fun z => z.elim h68 h75)]; exact ⟨rfl, rfl, rfl, rfl⟩)
        · refine z_al0 eX12_member_56 hR.ne ?_
          refine z_il1 eX12_member_57 ?_
          refine z_V1 eX12_member_58 vX12_320 rfl rfl (Nat.le_of_ble_eq_true rfl) (Nat.le_of_ble_eq_true rfl) hR.x (m_X12_isFor hR (by rw [e2]; exact hm4)) ?_
          rw [e2]
          refine z_ireturn eX12_member_61 rfl ?_
          rw [qThr2_0 h6' h19, if_pos rfl, if_neg (by omega), if_pos h53]; exact ⟨rfl, rfl, rfl, rfl⟩
      · refine z_al0 eX12_member_44 hR.ne ?_
        refine z_il1 eX12_member_45 ?_
        refine z_il2 eX12_member_46 ?_
        refine z_V2 eX12_member_47 vX12_62 rfl rfl (Nat.le_of_ble_eq_true rfl) (Nat.le_of_ble_eq_true rfl) hR.x (m_X12_of hR ⟨by omega, by omega⟩ ⟨by omega, by omega⟩) ?_
        rw [e2]
        refine z_ireturn eX12_member_50 rfl ?_
        rw [qThr2_0 h6' h19, if_pos rfl, if_pos (by omega)]; exact ⟨rfl, rfl, rfl, rfl⟩
    · refine z_iconst eX12_member_22 ?_
      refine z_goto eX12_member_23 (tgt := 27) rfl ?_
      refine z_rp (j := 0) lX12_48 eX12_member_27 rfl hR rfl rfl ?_
      refine z_al0 eX12_member_30 hR.ne ?_
      refine z_rg (j := 0) lX12_48 eX12_member_31 rfl hR rfl rfl ?_
      rw [zset_eq]
      refine z_if_le (tgt := 39) eX12_member_34 rfl ⟨by omega, by omega⟩ (fun h34 => (by exfalso; omega)) (fun h34 => ?_)
      refine z_iconst eX12_member_37 ?_
      refine z_ireturn eX12_member_38 rfl ?_
      rw [qThr2_2 h6' h19, if_neg (by decide)]; exact ⟨rfl, rfl, rfl, rfl⟩
  · rw [qThr2_1 h6', if_neg (by decide)]
    refine z_al0 eX12_member_0 hR.ne ?_
    refine z_al0 eX12_member_1 hR.ne ?_
    refine z_il1 eX12_member_2 ?_
    refine z_V1 eX12_member_3 vX12_317 rfl rfl (Nat.le_of_ble_eq_true rfl) (Nat.le_of_ble_eq_true rfl) hR.x (m_X12_isMember hR ⟨by omega, by omega⟩ hm) ?_
    refine z_ifb_ne (tgt := 13) eX12_member_6 rfl (fun h6 => absurd h6 h6') (fun h6 => ?_)
    refine z_iconst eX12_member_9 ?_
    refine z_goto eX12_member_10 (tgt := 27) rfl ?_
    refine z_rp (j := 0) lX12_48 eX12_member_27 rfl hR rfl rfl ?_
    refine z_al0 eX12_member_30 hR.ne ?_
    refine z_rg (j := 0) lX12_48 eX12_member_31 rfl hR rfl rfl ?_
    rw [zset_eq]
    refine z_if_le (tgt := 39) eX12_member_34 rfl ⟨by omega, by omega⟩ (fun h34 => (by exfalso; omega)) (fun h34 => ?_)
    refine z_iconst eX12_member_37 ?_
    refine z_ireturn eX12_member_38 rfl ?_
    first | exact ⟨rfl, rfl, rfl, rfl⟩ | exact zRb1 (by omega) | exact zRb0 (by omega) | exact zRe (by omega)
