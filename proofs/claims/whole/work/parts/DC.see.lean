/-! The methods that only look. -/
theorem zY'.fin {r : Option zAV} {P : zMem → zMem → Prop} {lay l : zLay} {nx x m : Int} {o : zO} {c : zMem} (h : zY' r P lay nx x o l c m) : zY' r P lay nx x o l c m := h
theorem c_X11_needMotion {G : zG} {lay : zLay} {σ C0 : zMem} {nx x : Int} (hT : TopL lay x) {s : Int} {M : Int → Int} (hN : CoN σ (0 + 2) M) (hM : zOC M) (hs : zin s) : zMM G 7 KX11_needMotion [zP (x + 0), zI s] lay (tC x σ C0) nx (1, 6) (zGd (0 ≤ s ∧ s < M 4) zEb lay (tC x σ C0) nx (zR none lay (tC x (σ) (C0)) nx)) := by
  refine z_met' (L := [zP (x + 0), zI s]) gX11_needMotion.1 rfl rfl (Nat.le_of_ble_eq_true rfl) rfl ?_
  have hA := TpAt
  have hx := hT.1
  have hne : x + 0 ≠ -1 := by omega
  have hD := isCo.now
  refine z_al0 eX11_needMotion_0 hne ?_
  first | refine z_ta0 lX11_20 eX11_needMotion_1 rfl hT hA (by decide) rfl rfl ?_ | refine z_ta lX11_20 eX11_needMotion_1 rfl hT hA ⟨by decide, by decide⟩ rfl rfl ?_
  first | refine z_ta0 lX11_154 eX11_needMotion_4 rfl hT hD (by decide) rfl rfl ?_ | refine z_ta lX11_154 eX11_needMotion_4 rfl hT hD ⟨by decide, by decide⟩ rfl rfl ?_
  refine z_il1 eX11_needMotion_7 ?_
  refine z_V1 eX11_needMotion_8 vX11_405 rfl rfl (Nat.le_of_ble_eq_true rfl) (Nat.le_of_ble_eq_true rfl) ((hD.mo).L0 hT (by decide)) (c_X6_has hT hD.mo hN.mo hM.I.m4 (by assumption)) ?_
  refine z_ifb_ne (tgt := 25) eX11_needMotion_11 rfl (fun h11 => ?_) (fun h11 => ?_)
  · refine z_return eX11_needMotion_25 rfl ?_
    first | exact Or.inl ⟨(by first | assumption | exact ⟨by omega, by omega⟩ | omega), ⟨rfl, rfl, rfl, rfl⟩⟩
  · exact z_throwW (sn := 47) rfl zth_441 rfl rfl eX11_needMotion_14 eX11_needMotion_17 eX11_needMotion_18 eX11_needMotion_21 eX11_needMotion_24 (Nat.le_of_ble_eq_true rfl) ⟨(Nat.le_of_ble_eq_true rfl), (Nat.le_of_ble_eq_true rfl)⟩ (by first | exact Or.inr ⟨(by first | assumption | exact ⟨by omega, by omega⟩ | omega), rfl, rfl, rfl, rfl⟩)
theorem c_X11_needWaiting {G : zG} {lay : zLay} {σ C0 : zMem} {nx x : Int} (hT : TopL lay x) {s : Int} {M : Int → Int} (hN : CoN σ (0 + 2) M) (hM : zOC M) (hs : 0 ≤ s ∧ s < M 4) : zMM G 7 KX11_needWaiting [zP (x + 0), zI s] lay (tC x σ C0) nx (1, 6) (zGd (M (74 + 5 * s + 4) = 0) zEs lay (tC x σ C0) nx (zR none lay (tC x (σ) (C0)) nx)) := by
  refine z_met' (L := [zP (x + 0), zI s]) gX11_needWaiting.1 rfl rfl (Nat.le_of_ble_eq_true rfl) rfl ?_
  have hA := TpAt
  have hx := hT.1
  have hne : x + 0 ≠ -1 := by omega
  have hD := isCo.now
  have hm4 := hM.I.m4
  have hst := hM.I.st (k := s) ⟨hs.1, by omega⟩
  refine z_al0 eX11_needWaiting_0 hne ?_
  first | refine z_ta0 lX11_20 eX11_needWaiting_1 rfl hT hA (by decide) rfl rfl ?_ | refine z_ta lX11_20 eX11_needWaiting_1 rfl hT hA ⟨by decide, by decide⟩ rfl rfl ?_
  first | refine z_ta0 lX11_154 eX11_needWaiting_4 rfl hT hD (by decide) rfl rfl ?_ | refine z_ta lX11_154 eX11_needWaiting_4 rfl hT hD ⟨by decide, by decide⟩ rfl rfl ?_
  first | refine z_ta0 lX11_183 eX11_needWaiting_7 rfl hT hD.mo (by decide) rfl rfl ?_ | refine z_ta lX11_183 eX11_needWaiting_7 rfl hT hD.mo ⟨by decide, by decide⟩ rfl rfl ?_
  refine z_il1 eX11_needWaiting_10 ?_
  refine z_tl eX11_needWaiting_11 hT hD.mo ⟨by decide, by decide⟩ rfl rfl ⟨by omega, by omega⟩ ?_
  rw [(hN.mo.2.1 s hs.1 hs.2).2.2.2.2]
  refine z_if_eq (tgt := 26) eX11_needWaiting_12 rfl ⟨by omega, by omega⟩ (fun h12 => ?_) (fun h12 => ?_)
  · refine z_return eX11_needWaiting_26 rfl ?_
    first | exact Or.inl ⟨(by first | assumption | exact ⟨by omega, by omega⟩ | omega), ⟨rfl, rfl, rfl, rfl⟩⟩
  · exact z_throwW (sn := 53) rfl zth_244 rfl rfl eX11_needWaiting_15 eX11_needWaiting_18 eX11_needWaiting_19 eX11_needWaiting_22 eX11_needWaiting_25 (Nat.le_of_ble_eq_true rfl) ⟨(Nat.le_of_ble_eq_true rfl), (Nat.le_of_ble_eq_true rfl)⟩ (by first | exact Or.inr ⟨(by first | assumption | exact ⟨by omega, by omega⟩ | omega), rfl, rfl, rfl, rfl⟩)
theorem c_X11_needVoter {G : zG} {lay : zLay} {σ C0 : zMem} {nx x : Int} (hT : TopL lay x) {s : Int} {M : Int → Int} (hN : CoN σ (0 + 2) M) (hM : zOC M) (hs : zin s) : zMM G 8 KX11_needVoter [zP (x + 0), zI s] lay (tC x σ C0) nx (1, 6) (zGd (s = 7 ∨ 0 ≤ s ∧ s < M 3) zEb lay (tC x σ C0) nx (zR none lay (tC x (σ) (C0)) nx)) := by
  refine z_met' (L := [zP (x + 0), zI s]) gX11_needVoter.1 rfl rfl (Nat.le_of_ble_eq_true rfl) rfl ?_
  have hA := TpAt
  have hx := hT.1
  have hne : x + 0 ≠ -1 := by omega
  have hD := isCo.now
  refine z_il1 eX11_needVoter_0 ?_
  refine z_bipush eX11_needVoter_1 (by decide) ?_
  refine z_icmp_eq (tgt := 11) eX11_needVoter_3 rfl ⟨⟨by omega, by omega⟩, ⟨by omega, by omega⟩⟩ (fun h3 => ?_) (fun h3 => ?_)
  · refine z_return eX11_needVoter_11 rfl ?_
    first | exact Or.inl ⟨(by first | assumption | exact ⟨by omega, by omega⟩ | omega), ⟨rfl, rfl, rfl, rfl⟩⟩
  · refine z_al0 eX11_needVoter_6 hne ?_
    refine z_il1 eX11_needVoter_7 ?_
    refine z_ndV1 (n := 0) eX11_needVoter_8 vX11_131 rfl rfl (Nat.le_of_ble_eq_true rfl) (Nat.le_of_ble_eq_true rfl) (hA.L0 hT (by decide)) (c_X11_needMember hT hN hM.I (by assumption)) (fun hP8 => ?_) (fun hN8 => (by first | exact Or.inr ⟨(by first | assumption | exact ⟨by omega, by omega⟩ | omega), rfl, rfl, rfl, rfl⟩))
    refine z_return eX11_needVoter_11 rfl ?_
    first | exact Or.inl ⟨(by first | assumption | exact ⟨by omega, by omega⟩ | omega), ⟨rfl, rfl, rfl, rfl⟩⟩
theorem c_X11_fault {G : zG} {lay : zLay} {σ C0 : zMem} {nx x : Int} (hT : TopL lay x)  : zMM G 1 KX11_fault [zP (x + 0)] lay (tC x σ C0) nx (0, 0) (zR (some (zI (σ 0 2))) lay (tC x (σ) (C0)) nx) := by
  refine z_met' (L := [zP (x + 0)]) gX11_fault.1 rfl rfl (Nat.le_of_ble_eq_true rfl) rfl ?_
  have hA := TpAt
  have hx := hT.1
  have hne : x + 0 ≠ -1 := by omega
  have hD := isCo.now
  refine z_al0 eX11_fault_0 hne ?_
  first | refine z_tg0 (j := 2) lX11_13 eX11_fault_1 rfl hT hA (by decide) rfl rfl rfl ?_ | refine z_tg (j := 2) lX11_13 eX11_fault_1 rfl hT hA ⟨by decide, by decide⟩ rfl rfl rfl ?_
  refine z_ireturn eX11_fault_4 rfl ?_
  first | exact ⟨rfl, rfl, rfl, rfl⟩
theorem c_X11_follows {G : zG} {lay : zLay} {σ C0 : zMem} {nx x : Int} (hT : TopL lay x) {s t : Int} {M : Int → Int} (hN : CoN σ (0 + 2) M) (hs : zin s) (ht : zin t) : zMM G 8 KX11_follows [zP (x + 0), zI s, zI t] lay (tC x σ C0) nx (2, 12) (zGd (0 ≤ s ∧ s < 5) zEb lay (tC x σ C0) nx (zGd (0 ≤ t ∧ t < 5) zEb lay (tC x σ C0) nx (zR (some (zI (M (13 + 5 * s + t)))) lay (tC x (σ) (C0)) nx))) := by
  refine z_met' (L := [zP (x + 0), zI s, zI t]) gX11_follows.1 rfl rfl (Nat.le_of_ble_eq_true rfl) rfl ?_
  have hA := TpAt
  have hx := hT.1
  have hne : x + 0 ≠ -1 := by omega
  have hD := isCo.now
  refine z_il1 eX11_follows_0 ?_
  refine z_ndS1 (n := 1) eX11_follows_1 vX11_191 rfl rfl (Nat.le_of_ble_eq_true rfl) (Nat.le_of_ble_eq_true rfl) (c_X11_needSky hT (by assumption)) (fun hP1 => ?_) (fun hN1 => (by first | exact Or.inr ⟨(by first | assumption | exact ⟨by omega, by omega⟩ | omega), rfl, rfl, rfl, rfl⟩ | exact Or.inl ⟨(by first | assumption | exact ⟨by omega, by omega⟩ | omega), Or.inr ⟨(by first | assumption | exact ⟨by omega, by omega⟩ | omega), rfl, rfl, rfl, rfl⟩⟩))
  refine z_il2 eX11_follows_4 ?_
  refine z_ndS1 (n := 0) eX11_follows_5 vX11_191 rfl rfl (Nat.le_of_ble_eq_true rfl) (Nat.le_of_ble_eq_true rfl) (c_X11_needSky hT (by assumption)) (fun hP5 => ?_) (fun hN5 => (by first | exact Or.inr ⟨(by first | assumption | exact ⟨by omega, by omega⟩ | omega), rfl, rfl, rfl, rfl⟩ | exact Or.inl ⟨(by first | assumption | exact ⟨by omega, by omega⟩ | omega), Or.inr ⟨(by first | assumption | exact ⟨by omega, by omega⟩ | omega), rfl, rfl, rfl, rfl⟩⟩))
  refine z_al0 eX11_follows_8 hne ?_
  first | refine z_ta0 lX11_20 eX11_follows_9 rfl hT hA (by decide) rfl rfl ?_ | refine z_ta lX11_20 eX11_follows_9 rfl hT hA ⟨by decide, by decide⟩ rfl rfl ?_
  first | refine z_ta0 lX11_194 eX11_follows_12 rfl hT hD (by decide) rfl rfl ?_ | refine z_ta lX11_194 eX11_follows_12 rfl hT hD ⟨by decide, by decide⟩ rfl rfl ?_
  first | refine z_ta0 lX11_198 eX11_follows_15 rfl hT hD.we (by decide) rfl rfl ?_ | refine z_ta lX11_198 eX11_follows_15 rfl hT hD.we ⟨by decide, by decide⟩ rfl rfl ?_
  refine z_il1 eX11_follows_18 ?_
  refine z_iconst eX11_follows_19 ?_
  refine z_imul eX11_follows_20 ?_
  refine z_il2 eX11_follows_21 ?_
  refine z_iadd eX11_follows_22 ?_
  refine z_tl eX11_follows_23 hT hD.we ⟨by decide, by decide⟩ rfl rfl ⟨by omega, by omega⟩ ?_
  rw [hN.we.w hP1 hP5]
  refine z_ireturn eX11_follows_24 rfl ?_
  first | exact Or.inl ⟨(by first | assumption | exact ⟨by omega, by omega⟩ | omega), Or.inl ⟨(by first | assumption | exact ⟨by omega, by omega⟩ | omega), ⟨rfl, rfl, rfl, rfl⟩⟩⟩
theorem c_X11_exposed {G : zG} {lay : zLay} {σ C0 : zMem} {nx x : Int} (hT : TopL lay x) {s : Int} {M : Int → Int} (hN : CoN σ (0 + 2) M) (hs : zin s) : zMM G 8 KX11_exposed [zP (x + 0), zI s] lay (tC x σ C0) nx (1, 6) (zGd (0 ≤ s ∧ s < 8) zEb lay (tC x σ C0) nx (zR (some (zI (M (38 + s)))) lay (tC x (σ) (C0)) nx)) := by
  refine z_met' (L := [zP (x + 0), zI s]) gX11_exposed.1 rfl rfl (Nat.le_of_ble_eq_true rfl) rfl ?_
  have hA := TpAt
  have hx := hT.1
  have hne : x + 0 ≠ -1 := by omega
  have hD := isCo.now
  refine z_il1 eX11_exposed_0 ?_
  refine z_ndS1 (n := 0) eX11_exposed_1 vX11_203 rfl rfl (Nat.le_of_ble_eq_true rfl) (Nat.le_of_ble_eq_true rfl) (c_X11_needPlace hT (by assumption)) (fun hP1 => ?_) (fun hN1 => (by first | exact Or.inr ⟨(by first | assumption | exact ⟨by omega, by omega⟩ | omega), rfl, rfl, rfl, rfl⟩))
  refine z_al0 eX11_exposed_4 hne ?_
  first | refine z_ta0 lX11_20 eX11_exposed_5 rfl hT hA (by decide) rfl rfl ?_ | refine z_ta lX11_20 eX11_exposed_5 rfl hT hA ⟨by decide, by decide⟩ rfl rfl ?_
  first | refine z_ta0 lX11_206 eX11_exposed_8 rfl hT hD (by decide) rfl rfl ?_ | refine z_ta lX11_206 eX11_exposed_8 rfl hT hD ⟨by decide, by decide⟩ rfl rfl ?_
  refine z_il1 eX11_exposed_11 ?_
  refine z_tl eX11_exposed_12 hT hD ⟨by decide, by decide⟩ rfl rfl ⟨by omega, by omega⟩ ?_
  rw [hN.ex s hP1.1 hP1.2]
  refine z_ireturn eX11_exposed_13 rfl ?_
  first | exact Or.inl ⟨(by first | assumption | exact ⟨by omega, by omega⟩ | omega), ⟨rfl, rfl, rfl, rfl⟩⟩
theorem c_X11_paper {G : zG} {lay : zLay} {σ C0 : zMem} {nx x : Int} (hT : TopL lay x) {s : Int} {M : Int → Int} (hN : CoN σ (0 + 2) M) (hs : zin s) : zMM G 8 KX11_paper [zP (x + 0), zI s] lay (tC x σ C0) nx (1, 6) (zGd (0 ≤ s ∧ s < 12) zEb lay (tC x σ C0) nx (zR (some (zI (M (114 + s)))) lay (tC x (σ) (C0)) nx)) := by
  refine z_met' (L := [zP (x + 0), zI s]) gX11_paper.1 rfl rfl (Nat.le_of_ble_eq_true rfl) rfl ?_
  have hA := TpAt
  have hx := hT.1
  have hne : x + 0 ≠ -1 := by omega
  have hD := isCo.now
  refine z_il1 eX11_paper_0 ?_
  refine z_ndS1 (n := 0) eX11_paper_1 vX11_209 rfl rfl (Nat.le_of_ble_eq_true rfl) (Nat.le_of_ble_eq_true rfl) (c_X11_needHour hT (by assumption)) (fun hP1 => ?_) (fun hN1 => (by first | exact Or.inr ⟨(by first | assumption | exact ⟨by omega, by omega⟩ | omega), rfl, rfl, rfl, rfl⟩))
  refine z_al0 eX11_paper_4 hne ?_
  first | refine z_ta0 lX11_20 eX11_paper_5 rfl hT hA (by decide) rfl rfl ?_ | refine z_ta lX11_20 eX11_paper_5 rfl hT hA ⟨by decide, by decide⟩ rfl rfl ?_
  first | refine z_ta0 lX11_154 eX11_paper_8 rfl hT hD (by decide) rfl rfl ?_ | refine z_ta lX11_154 eX11_paper_8 rfl hT hD ⟨by decide, by decide⟩ rfl rfl ?_
  first | refine z_ta0 lX11_212 eX11_paper_11 rfl hT hD.mo (by decide) rfl rfl ?_ | refine z_ta lX11_212 eX11_paper_11 rfl hT hD.mo ⟨by decide, by decide⟩ rfl rfl ?_
  refine z_il1 eX11_paper_14 ?_
  refine z_tl eX11_paper_15 hT hD.mo ⟨by decide, by decide⟩ rfl rfl ⟨by omega, by omega⟩ ?_
  rw [hN.mo.2.2 s hP1.1 hP1.2]
  refine z_ireturn eX11_paper_16 rfl ?_
  first | exact Or.inl ⟨(by first | assumption | exact ⟨by omega, by omega⟩ | omega), ⟨rfl, rfl, rfl, rfl⟩⟩
theorem c_X11_goes {G : zG} {lay : zLay} {σ C0 : zMem} {nx x : Int} (hT : TopL lay x) {k s h : Int} {M : Int → Int} (hN : CoN σ (0 + 2) M) (hL : CoL lay x C0 (σ (0 + 2) 10) M) (hM : zOC M) (hk : zin k) (hs : zin s) (hh : zin h) : zMM G 8 KX11_goes [zP (x + 0), zI k, zI s, zI h] lay (tC x σ C0) nx (3, 18) (zGd (0 ≤ k ∧ k < M 4) zEb lay (tC x σ C0) nx (zGd (0 ≤ s ∧ s < 5) zEb lay (tC x σ C0) nx (zGd (0 ≤ h ∧ h < 12) zEb lay (tC x σ C0) nx (zY' (some (zI (qGo M k s h))) (fun q C => zOut (0 + 2 + 17) 1 σ q ∧ zStk C0 (σ (0 + 2) 10) C) lay nx x)))) := by
  refine z_met' (L := [zP (x + 0), zI k, zI s, zI h]) gX11_goes.1 rfl rfl (Nat.le_of_ble_eq_true rfl) rfl ?_
  have hA := TpAt
  have hx := hT.1
  have hne : x + 0 ≠ -1 := by omega
  have hD := isCo.now
  refine z_al0 eX11_goes_0 hne ?_
  refine z_il1 eX11_goes_1 ?_
  refine z_ndV1 (n := 2) eX11_goes_2 vX11_168 rfl rfl (Nat.le_of_ble_eq_true rfl) (Nat.le_of_ble_eq_true rfl) (hA.L0 hT (by decide)) (c_X11_needMotion hT hN hM (by assumption)) (fun hP2 => ?_) (fun hN2 => (by first | exact Or.inr ⟨(by first | assumption | exact ⟨by omega, by omega⟩ | omega), rfl, rfl, rfl, rfl⟩ | exact Or.inl ⟨(by first | assumption | exact ⟨by omega, by omega⟩ | omega), Or.inr ⟨(by first | assumption | exact ⟨by omega, by omega⟩ | omega), rfl, rfl, rfl, rfl⟩⟩ | exact Or.inl ⟨(by first | assumption | exact ⟨by omega, by omega⟩ | omega), Or.inl ⟨(by first | assumption | exact ⟨by omega, by omega⟩ | omega), Or.inr ⟨(by first | assumption | exact ⟨by omega, by omega⟩ | omega), rfl, rfl, rfl, rfl⟩⟩⟩))
  refine z_il2 eX11_goes_5 ?_
  refine z_ndS1 (n := 1) eX11_goes_6 vX11_191 rfl rfl (Nat.le_of_ble_eq_true rfl) (Nat.le_of_ble_eq_true rfl) (c_X11_needSky hT (by assumption)) (fun hP6 => ?_) (fun hN6 => (by first | exact Or.inr ⟨(by first | assumption | exact ⟨by omega, by omega⟩ | omega), rfl, rfl, rfl, rfl⟩ | exact Or.inl ⟨(by first | assumption | exact ⟨by omega, by omega⟩ | omega), Or.inr ⟨(by first | assumption | exact ⟨by omega, by omega⟩ | omega), rfl, rfl, rfl, rfl⟩⟩ | exact Or.inl ⟨(by first | assumption | exact ⟨by omega, by omega⟩ | omega), Or.inl ⟨(by first | assumption | exact ⟨by omega, by omega⟩ | omega), Or.inr ⟨(by first | assumption | exact ⟨by omega, by omega⟩ | omega), rfl, rfl, rfl, rfl⟩⟩⟩))
  refine z_il3 eX11_goes_9 ?_
  refine z_ndS1 (n := 0) eX11_goes_10 vX11_209 rfl rfl (Nat.le_of_ble_eq_true rfl) (Nat.le_of_ble_eq_true rfl) (c_X11_needHour hT (by assumption)) (fun hP10 => ?_) (fun hN10 => (by first | exact Or.inr ⟨(by first | assumption | exact ⟨by omega, by omega⟩ | omega), rfl, rfl, rfl, rfl⟩ | exact Or.inl ⟨(by first | assumption | exact ⟨by omega, by omega⟩ | omega), Or.inr ⟨(by first | assumption | exact ⟨by omega, by omega⟩ | omega), rfl, rfl, rfl, rfl⟩⟩ | exact Or.inl ⟨(by first | assumption | exact ⟨by omega, by omega⟩ | omega), Or.inl ⟨(by first | assumption | exact ⟨by omega, by omega⟩ | omega), Or.inr ⟨(by first | assumption | exact ⟨by omega, by omega⟩ | omega), rfl, rfl, rfl, rfl⟩⟩⟩))
  refine z_al0 eX11_goes_13 hne ?_
  first | refine z_ta0 lX11_20 eX11_goes_14 rfl hT hA (by decide) rfl rfl ?_ | refine z_ta lX11_20 eX11_goes_14 rfl hT hA ⟨by decide, by decide⟩ rfl rfl ?_
  refine z_il1 eX11_goes_17 ?_
  refine z_il2 eX11_goes_18 ?_
  refine z_il3 eX11_goes_19 ?_
  refine z_V3y eX11_goes_20 vX11_222 rfl rfl (Nat.le_of_ble_eq_true rfl) (Nat.le_of_ble_eq_true rfl) ((hD).L0 hT (by decide)) (c_X1_outcomeIn hT hD hN hL hM hP6 hP2 hP10 ⟨(qOuts_256 hM.ol.1).1, by have := (qOuts_256 hM.ol.1).2; omega⟩) (fun s20 C20 hs20 => ?_)
  refine z_ireturn eX11_goes_23 rfl ?_
  rw [qGoO_q hM.ol.1 ⟨(hM.I.V (k := k) ⟨hP2.1, by have := hM.I.m4; omega⟩).1.1, hM.mv k hP2.1 hP2.2⟩]
  exact Or.inl ⟨hP2, Or.inl ⟨hP6, Or.inl ⟨hP10, zYe hs20 rfl⟩⟩⟩
theorem c_X11_felt {G : zG} {lay : zLay} {σ C0 : zMem} {nx x : Int} (hT : TopL lay x) {p s k : Int} {M : Int → Int} (hN : CoN σ (0 + 2) M) (hL : CoL lay x C0 (σ (0 + 2) 10) M) (hM : zOC M) (hp : zin p) (hs : zin s) (hk : zin k) : zMM G 8 KX11_felt [zP (x + 0), zI p, zI s, zI k] lay (tC x σ C0) nx (3, 18) (zGd (0 ≤ p ∧ p < M 3) zEb lay (tC x σ C0) nx (zGd (0 ≤ s ∧ s < 5) zEb lay (tC x σ C0) nx (zGd (k = -1 ∨ 0 ≤ k ∧ k < M 4) zEb lay (tC x σ C0) nx (zY' (some (zI (qFelt M p s k (M 6)))) (fun q C => zOut (0 + 2 + 17) 1 σ q ∧ zStk C0 (σ (0 + 2) 10) C) lay nx x)))) := by
  refine z_met' (L := [zP (x + 0), zI p, zI s, zI k]) gX11_felt.1 rfl rfl (Nat.le_of_ble_eq_true rfl) rfl ?_
  have hA := TpAt
  have hx := hT.1
  have hne : x + 0 ≠ -1 := by omega
  have hD := isCo.now
  have h6 := hM.I.s 6 rfl (by omega)
  refine z_al0 eX11_felt_0 hne ?_
  refine z_il1 eX11_felt_1 ?_
  refine z_ndV1 (n := 2) eX11_felt_2 vX11_131 rfl rfl (Nat.le_of_ble_eq_true rfl) (Nat.le_of_ble_eq_true rfl) (hA.L0 hT (by decide)) (c_X11_needMember hT hN hM.I (by assumption)) (fun hP2 => ?_) (fun hN2 => (by first | exact Or.inr ⟨(by first | assumption | exact ⟨by omega, by omega⟩ | omega), rfl, rfl, rfl, rfl⟩ | exact Or.inl ⟨(by first | assumption | exact ⟨by omega, by omega⟩ | omega), Or.inr ⟨(by first | assumption | exact ⟨by omega, by omega⟩ | omega), rfl, rfl, rfl, rfl⟩⟩ | exact Or.inl ⟨(by first | assumption | exact ⟨by omega, by omega⟩ | omega), Or.inl ⟨(by first | assumption | exact ⟨by omega, by omega⟩ | omega), Or.inr ⟨(by first | assumption | exact ⟨by omega, by omega⟩ | omega), rfl, rfl, rfl, rfl⟩⟩⟩))
  refine z_il2 eX11_felt_5 ?_
  refine z_ndS1 (n := 1) eX11_felt_6 vX11_191 rfl rfl (Nat.le_of_ble_eq_true rfl) (Nat.le_of_ble_eq_true rfl) (c_X11_needSky hT (by assumption)) (fun hP6 => ?_) (fun hN6 => (by first | exact Or.inr ⟨(by first | assumption | exact ⟨by omega, by omega⟩ | omega), rfl, rfl, rfl, rfl⟩ | exact Or.inl ⟨(by first | assumption | exact ⟨by omega, by omega⟩ | omega), Or.inr ⟨(by first | assumption | exact ⟨by omega, by omega⟩ | omega), rfl, rfl, rfl, rfl⟩⟩ | exact Or.inl ⟨(by first | assumption | exact ⟨by omega, by omega⟩ | omega), Or.inl ⟨(by first | assumption | exact ⟨by omega, by omega⟩ | omega), Or.inr ⟨(by first | assumption | exact ⟨by omega, by omega⟩ | omega), rfl, rfl, rfl, rfl⟩⟩⟩))
  refine z_il3 eX11_felt_9 ?_
  refine z_iconst eX11_felt_10 ?_
  refine z_icmp_eq (tgt := 19) eX11_felt_11 rfl ⟨⟨by omega, by omega⟩, ⟨by omega, by omega⟩⟩ (fun h11 => ?_) (fun h11 => ?_)
  · refine z_al0 eX11_felt_19 hne ?_
    first | refine z_ta0 lX11_20 eX11_felt_20 rfl hT hA (by decide) rfl rfl ?_ | refine z_ta lX11_20 eX11_felt_20 rfl hT hA ⟨by decide, by decide⟩ rfl rfl ?_
    refine z_il1 eX11_felt_23 ?_
    refine z_il2 eX11_felt_24 ?_
    refine z_il3 eX11_felt_25 ?_
    refine z_al0 eX11_felt_26 hne ?_
    first | refine z_ta0 lX11_20 eX11_felt_27 rfl hT hA (by decide) rfl rfl ?_ | refine z_ta lX11_20 eX11_felt_27 rfl hT hA ⟨by decide, by decide⟩ rfl rfl ?_
    first | refine z_ta0 lX11_194 eX11_felt_30 rfl hT hD (by decide) rfl rfl ?_ | refine z_ta lX11_194 eX11_felt_30 rfl hT hD ⟨by decide, by decide⟩ rfl rfl ?_
    first | refine z_tg0 (j := 1) lX11_215 eX11_felt_33 rfl hT hD.we (by decide) rfl rfl rfl ?_ | refine z_tg (j := 1) lX11_215 eX11_felt_33 rfl hT hD.we ⟨by decide, by decide⟩ rfl rfl rfl ?_
    rw [hN.we.1.2.1]
    refine z_al0 eX11_felt_36 hne ?_
    first | refine z_ta0 lX11_20 eX11_felt_37 rfl hT hA (by decide) rfl rfl ?_ | refine z_ta lX11_20 eX11_felt_37 rfl hT hA ⟨by decide, by decide⟩ rfl rfl ?_
    first | refine z_tg0 (j := 5) lX11_147 eX11_felt_40 rfl hT hD (by decide) rfl rfl rfl ?_ | refine z_tg (j := 5) lX11_147 eX11_felt_40 rfl hT hD ⟨by decide, by decide⟩ rfl rfl rfl ?_
    rw [hN.ou]
    refine z_V5y eX11_felt_43 vX11_218 rfl rfl (Nat.le_of_ble_eq_true rfl) (Nat.le_of_ble_eq_true rfl) ((hD).L0 hT (by decide)) (c_X1_feels hT hD hN hL hM.ol hP2 hP6 (by omega) (by omega)) (fun s43 C43 hs43 => ?_)
    refine z_ireturn eX11_felt_46 rfl ?_
    rw [qFeltO_q hM.ol.1 hP2]
    exact Or.inl ⟨hP2, Or.inl ⟨hP6, Or.inl ⟨by omega, zYe hs43 rfl⟩⟩⟩
  · refine z_al0 eX11_felt_14 hne ?_
    refine z_il3 eX11_felt_15 ?_
    refine z_ndV1 (n := 0) eX11_felt_16 vX11_168 rfl rfl (Nat.le_of_ble_eq_true rfl) (Nat.le_of_ble_eq_true rfl) (hA.L0 hT (by decide)) (c_X11_needMotion hT hN hM (by assumption)) (fun hP16 => ?_) (fun hN16 => (by first | exact Or.inr ⟨(by first | assumption | exact ⟨by omega, by omega⟩ | omega), rfl, rfl, rfl, rfl⟩ | exact Or.inl ⟨(by first | assumption | exact ⟨by omega, by omega⟩ | omega), Or.inr ⟨(by first | assumption | exact ⟨by omega, by omega⟩ | omega), rfl, rfl, rfl, rfl⟩⟩ | exact Or.inl ⟨(by first | assumption | exact ⟨by omega, by omega⟩ | omega), Or.inl ⟨(by first | assumption | exact ⟨by omega, by omega⟩ | omega), Or.inr ⟨(by first | assumption | exact ⟨by omega, by omega⟩ | omega), rfl, rfl, rfl, rfl⟩⟩⟩))
    refine z_al0 eX11_felt_19 hne ?_
    first | refine z_ta0 lX11_20 eX11_felt_20 rfl hT hA (by decide) rfl rfl ?_ | refine z_ta lX11_20 eX11_felt_20 rfl hT hA ⟨by decide, by decide⟩ rfl rfl ?_
    refine z_il1 eX11_felt_23 ?_
    refine z_il2 eX11_felt_24 ?_
    refine z_il3 eX11_felt_25 ?_
    refine z_al0 eX11_felt_26 hne ?_
    first | refine z_ta0 lX11_20 eX11_felt_27 rfl hT hA (by decide) rfl rfl ?_ | refine z_ta lX11_20 eX11_felt_27 rfl hT hA ⟨by decide, by decide⟩ rfl rfl ?_
    first | refine z_ta0 lX11_194 eX11_felt_30 rfl hT hD (by decide) rfl rfl ?_ | refine z_ta lX11_194 eX11_felt_30 rfl hT hD ⟨by decide, by decide⟩ rfl rfl ?_
    first | refine z_tg0 (j := 1) lX11_215 eX11_felt_33 rfl hT hD.we (by decide) rfl rfl rfl ?_ | refine z_tg (j := 1) lX11_215 eX11_felt_33 rfl hT hD.we ⟨by decide, by decide⟩ rfl rfl rfl ?_
    rw [hN.we.1.2.1]
    refine z_al0 eX11_felt_36 hne ?_
    first | refine z_ta0 lX11_20 eX11_felt_37 rfl hT hA (by decide) rfl rfl ?_ | refine z_ta lX11_20 eX11_felt_37 rfl hT hA ⟨by decide, by decide⟩ rfl rfl ?_
    first | refine z_tg0 (j := 5) lX11_147 eX11_felt_40 rfl hT hD (by decide) rfl rfl rfl ?_ | refine z_tg (j := 5) lX11_147 eX11_felt_40 rfl hT hD ⟨by decide, by decide⟩ rfl rfl rfl ?_
    rw [hN.ou]
    refine z_V5y eX11_felt_43 vX11_218 rfl rfl (Nat.le_of_ble_eq_true rfl) (Nat.le_of_ble_eq_true rfl) ((hD).L0 hT (by decide)) (c_X1_feels hT hD hN hL hM.ol hP2 hP6 (by omega) (by omega)) (fun s43 C43 hs43 => ?_)
    refine z_ireturn eX11_felt_46 rfl ?_
    rw [qFeltO_q hM.ol.1 hP2]
    exact Or.inl ⟨hP2, Or.inl ⟨hP6, Or.inl ⟨by omega, zYe hs43 rfl⟩⟩⟩
