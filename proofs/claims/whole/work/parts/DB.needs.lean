/-! The checks. -/
/-- P, and then Q; or else a throw, with nothing changed -/
def zGd (P : Prop) (E : String) (lay : zLay) (C : zMem) (nx : Int) (Q : zQ) : zQ := fun o l c n => (P ∧ Q o l c n) ∨ (¬ P ∧ o = .inr E ∧ l = lay ∧ c = C ∧ n = nx)
section ZND
variable {G : zG} {k k' : zK} {D D' : Nat} {Q : zQ} {lay : zLay} {C : zMem} {nx : Int} {st : List zAV} {pc pc' n idx ci : Nat} {own : String} {P : Prop} {E : String} {L : List zAV} {a1 a2 a3 : zAV} {o nn : Int}
theorem zGd_ok {r : Option zAV} {l : zLay} {c : zMem} {m : Int} (q : zGd P E lay C nx (zR none lay C nx) (.inl r) l c m) : P ∧ r = none ∧ l = lay ∧ c = C ∧ m = nx := by
  rcases q with ⟨hp, q1, q2, q3, q4⟩ | ⟨hp, q1, -⟩
  · exact ⟨hp, Sum.inl.inj q1, q2, q3, q4⟩
  · cases q1
theorem zGd_no {E' : String} {l : zLay} {c : zMem} {m : Int} (q : zGd P E lay C nx (zR none lay C nx) (.inr E') l c m) : ¬ P ∧ E' = E ∧ l = lay ∧ c = C ∧ m = nx := by
  rcases q with ⟨hp, q1, -⟩ | ⟨hp, q1, q2, q3, q4⟩
  · cases q1
  · exact ⟨hp, Sum.inr.inj q1, q2, q3, q4⟩
theorem z_ndV1 (hd : zD k pc (.invokevirtual idx) 3 pc') (hf : zVc own idx k' 1 ci) (hw : own = k.1.cls) (hk : k.2.2.2.2 = []) (hD : D' + 1 ≤ D) (hst : st.length ≤ 4) (ho : lay o = (ci + 1, nn)) (hM : zMM G D' k' [zP o, a1] lay C nx (1, 6) (zGd P E lay C nx (zR none lay C nx))) (kk : P → zW G k D Q pc' L st lay C nx (n, 6 * n)) (kx : ¬ P → Q (.inr E) lay C nx) : zW G k D Q pc L (a1 :: zP o :: st) lay C nx (n + 1, 6 * n + 6) := by
  have h := z_V1q (L := L) (b' := (1, 6)) (b'' := (n, 6 * n)) (Q := Q) hd hf hw hk hD hst ho hM (fun r l c m q => by obtain ⟨q0, q1, q2, q3, q4⟩ := zGd_ok q; subst q1; subst q2; subst q3; subst q4; exact kk q0) (fun E' l c m q => by obtain ⟨q0, q1, q2, q3, q4⟩ := zGd_no q; subst q1; subst q2; subst q3; subst q4; exact kx q0)
  rw [Nat.add_comm n 1, Nat.add_comm (6 * n) 6]
  exact h
theorem z_ndS1 (hd : zD k pc (.invokestatic idx) 3 pc') (hf : zSc own idx k' 1) (hw : own = k.1.cls) (hk : k.2.2.2.2 = []) (hD : D' + 1 ≤ D) (hst : st.length ≤ 4) (hM : zMM G D' k' [a1] lay C nx (1, 6) (zGd P E lay C nx (zR none lay C nx))) (kk : P → zW G k D Q pc' L st lay C nx (n, 6 * n)) (kx : ¬ P → Q (.inr E) lay C nx) : zW G k D Q pc L (a1 :: st) lay C nx (n + 1, 6 * n + 6) := by
  have h := z_S1q (L := L) (b' := (1, 6)) (b'' := (n, 6 * n)) (Q := Q) hd hf hw hk hD hst hM (fun r l c m q => by obtain ⟨q0, q1, q2, q3, q4⟩ := zGd_ok q; subst q1; subst q2; subst q3; subst q4; exact kk q0) (fun E' l c m q => by obtain ⟨q0, q1, q2, q3, q4⟩ := zGd_no q; subst q1; subst q2; subst q3; subst q4; exact kx q0)
  rw [Nat.add_comm n 1, Nat.add_comm (6 * n) 6]
  exact h
theorem z_ndS2 (hd : zD k pc (.invokestatic idx) 3 pc') (hf : zSc own idx k' 2) (hw : own = k.1.cls) (hk : k.2.2.2.2 = []) (hD : D' + 1 ≤ D) (hst : st.length ≤ 4) (hM : zMM G D' k' [a1, a2] lay C nx (1, 6) (zGd P E lay C nx (zR none lay C nx))) (kk : P → zW G k D Q pc' L st lay C nx (n, 6 * n)) (kx : ¬ P → Q (.inr E) lay C nx) : zW G k D Q pc L (a2 :: a1 :: st) lay C nx (n + 1, 6 * n + 6) := by
  have h := z_S2q (L := L) (b' := (1, 6)) (b'' := (n, 6 * n)) (Q := Q) hd hf hw hk hD hst hM (fun r l c m q => by obtain ⟨q0, q1, q2, q3, q4⟩ := zGd_ok q; subst q1; subst q2; subst q3; subst q4; exact kk q0) (fun E' l c m q => by obtain ⟨q0, q1, q2, q3, q4⟩ := zGd_no q; subst q1; subst q2; subst q3; subst q4; exact kx q0)
  rw [Nat.add_comm n 1, Nat.add_comm (6 * n) 6]
  exact h
theorem z_ndS3 (hd : zD k pc (.invokestatic idx) 3 pc') (hf : zSc own idx k' 3) (hw : own = k.1.cls) (hk : k.2.2.2.2 = []) (hD : D' + 1 ≤ D) (hst : st.length ≤ 4) (hM : zMM G D' k' [a1, a2, a3] lay C nx (1, 6) (zGd P E lay C nx (zR none lay C nx))) (kk : P → zW G k D Q pc' L st lay C nx (n, 6 * n)) (kx : ¬ P → Q (.inr E) lay C nx) : zW G k D Q pc L (a3 :: a2 :: a1 :: st) lay C nx (n + 1, 6 * n + 6) := by
  have h := z_S3q (L := L) (b' := (1, 6)) (b'' := (n, 6 * n)) (Q := Q) hd hf hw hk hD hst hM (fun r l c m q => by obtain ⟨q0, q1, q2, q3, q4⟩ := zGd_ok q; subst q1; subst q2; subst q3; subst q4; exact kk q0) (fun E' l c m q => by obtain ⟨q0, q1, q2, q3, q4⟩ := zGd_no q; subst q1; subst q2; subst q3; subst q4; exact kx q0)
  rw [Nat.add_comm n 1, Nat.add_comm (6 * n) 6]
  exact h
end ZND
theorem c_X11_needSky {G : zG} {lay : zLay} {σ C0 : zMem} {nx x : Int} (hT : TopL lay x) {s : Int} (hs : zin s) : zMM G 7 KX11_needSky [zI s] lay (tC x σ C0) nx (1, 6) (zGd (0 ≤ s ∧ s < 5) zEb lay (tC x σ C0) nx (zR none lay (tC x (σ) (C0)) nx)) := by
  refine z_met' (L := [zI s]) gX11_needSky.1 rfl rfl (Nat.le_of_ble_eq_true rfl) rfl ?_
  have hA := TpAt
  have hx := hT.1
  have hne : x + 0 ≠ -1 := by omega
  have hD := isCo.now
  refine z_il0 eX11_needSky_0 ?_
  refine z_if_lt (tgt := 9) eX11_needSky_1 rfl ⟨by omega, by omega⟩ (fun h1 => ?_) (fun h1 => ?_)
  · exact z_throwW (sn := 49) rfl zth_441 rfl rfl eX11_needSky_9 eX11_needSky_12 eX11_needSky_13 eX11_needSky_16 eX11_needSky_19 (Nat.le_of_ble_eq_true rfl) ⟨(Nat.le_of_ble_eq_true rfl), (Nat.le_of_ble_eq_true rfl)⟩ (by first | exact Or.inr ⟨(by first | assumption | exact ⟨by omega, by omega⟩ | omega), rfl, rfl, rfl, rfl⟩)
  · refine z_il0 eX11_needSky_4 ?_
    refine z_iconst eX11_needSky_5 ?_
    refine z_icmp_lt (tgt := 20) eX11_needSky_6 rfl ⟨⟨by omega, by omega⟩, ⟨by omega, by omega⟩⟩ (fun h6 => ?_) (fun h6 => ?_)
    · refine z_return eX11_needSky_20 rfl ?_
      first | exact Or.inl ⟨(by first | assumption | exact ⟨by omega, by omega⟩ | omega), ⟨rfl, rfl, rfl, rfl⟩⟩
    · exact z_throwW (sn := 49) rfl zth_441 rfl rfl eX11_needSky_9 eX11_needSky_12 eX11_needSky_13 eX11_needSky_16 eX11_needSky_19 (Nat.le_of_ble_eq_true rfl) ⟨(Nat.le_of_ble_eq_true rfl), (Nat.le_of_ble_eq_true rfl)⟩ (by first | exact Or.inr ⟨(by first | assumption | exact ⟨by omega, by omega⟩ | omega), rfl, rfl, rfl, rfl⟩)
theorem c_X11_needPlace {G : zG} {lay : zLay} {σ C0 : zMem} {nx x : Int} (hT : TopL lay x) {s : Int} (hs : zin s) : zMM G 7 KX11_needPlace [zI s] lay (tC x σ C0) nx (1, 6) (zGd (0 ≤ s ∧ s < 8) zEb lay (tC x σ C0) nx (zR none lay (tC x (σ) (C0)) nx)) := by
  refine z_met' (L := [zI s]) gX11_needPlace.1 rfl rfl (Nat.le_of_ble_eq_true rfl) rfl ?_
  have hA := TpAt
  have hx := hT.1
  have hne : x + 0 ≠ -1 := by omega
  have hD := isCo.now
  refine z_il0 eX11_needPlace_0 ?_
  refine z_if_lt (tgt := 10) eX11_needPlace_1 rfl ⟨by omega, by omega⟩ (fun h1 => ?_) (fun h1 => ?_)
  · exact z_throwW (sn := 50) rfl zth_441 rfl rfl eX11_needPlace_10 eX11_needPlace_13 eX11_needPlace_14 eX11_needPlace_17 eX11_needPlace_20 (Nat.le_of_ble_eq_true rfl) ⟨(Nat.le_of_ble_eq_true rfl), (Nat.le_of_ble_eq_true rfl)⟩ (by first | exact Or.inr ⟨(by first | assumption | exact ⟨by omega, by omega⟩ | omega), rfl, rfl, rfl, rfl⟩)
  · refine z_il0 eX11_needPlace_4 ?_
    refine z_bipush eX11_needPlace_5 (by decide) ?_
    refine z_icmp_lt (tgt := 21) eX11_needPlace_7 rfl ⟨⟨by omega, by omega⟩, ⟨by omega, by omega⟩⟩ (fun h7 => ?_) (fun h7 => ?_)
    · refine z_return eX11_needPlace_21 rfl ?_
      first | exact Or.inl ⟨(by first | assumption | exact ⟨by omega, by omega⟩ | omega), ⟨rfl, rfl, rfl, rfl⟩⟩
    · exact z_throwW (sn := 50) rfl zth_441 rfl rfl eX11_needPlace_10 eX11_needPlace_13 eX11_needPlace_14 eX11_needPlace_17 eX11_needPlace_20 (Nat.le_of_ble_eq_true rfl) ⟨(Nat.le_of_ble_eq_true rfl), (Nat.le_of_ble_eq_true rfl)⟩ (by first | exact Or.inr ⟨(by first | assumption | exact ⟨by omega, by omega⟩ | omega), rfl, rfl, rfl, rfl⟩)
theorem c_X11_needHour {G : zG} {lay : zLay} {σ C0 : zMem} {nx x : Int} (hT : TopL lay x) {s : Int} (hs : zin s) : zMM G 7 KX11_needHour [zI s] lay (tC x σ C0) nx (1, 6) (zGd (0 ≤ s ∧ s < 12) zEb lay (tC x σ C0) nx (zR none lay (tC x (σ) (C0)) nx)) := by
  refine z_met' (L := [zI s]) gX11_needHour.1 rfl rfl (Nat.le_of_ble_eq_true rfl) rfl ?_
  have hA := TpAt
  have hx := hT.1
  have hne : x + 0 ≠ -1 := by omega
  have hD := isCo.now
  refine z_il0 eX11_needHour_0 ?_
  refine z_if_lt (tgt := 10) eX11_needHour_1 rfl ⟨by omega, by omega⟩ (fun h1 => ?_) (fun h1 => ?_)
  · exact z_throwW (sn := 51) rfl zth_441 rfl rfl eX11_needHour_10 eX11_needHour_13 eX11_needHour_14 eX11_needHour_17 eX11_needHour_20 (Nat.le_of_ble_eq_true rfl) ⟨(Nat.le_of_ble_eq_true rfl), (Nat.le_of_ble_eq_true rfl)⟩ (by first | exact Or.inr ⟨(by first | assumption | exact ⟨by omega, by omega⟩ | omega), rfl, rfl, rfl, rfl⟩)
  · refine z_il0 eX11_needHour_4 ?_
    refine z_bipush eX11_needHour_5 (by decide) ?_
    refine z_icmp_lt (tgt := 21) eX11_needHour_7 rfl ⟨⟨by omega, by omega⟩, ⟨by omega, by omega⟩⟩ (fun h7 => ?_) (fun h7 => ?_)
    · refine z_return eX11_needHour_21 rfl ?_
      first | exact Or.inl ⟨(by first | assumption | exact ⟨by omega, by omega⟩ | omega), ⟨rfl, rfl, rfl, rfl⟩⟩
    · exact z_throwW (sn := 51) rfl zth_441 rfl rfl eX11_needHour_10 eX11_needHour_13 eX11_needHour_14 eX11_needHour_17 eX11_needHour_20 (Nat.le_of_ble_eq_true rfl) ⟨(Nat.le_of_ble_eq_true rfl), (Nat.le_of_ble_eq_true rfl)⟩ (by first | exact Or.inr ⟨(by first | assumption | exact ⟨by omega, by omega⟩ | omega), rfl, rfl, rfl, rfl⟩)
theorem c_X11_needNumber {G : zG} {lay : zLay} {σ C0 : zMem} {nx x : Int} (hT : TopL lay x) {s a b : Int} (hs : zin s) (ha : zin a) (hb : zin b) : zMM G 7 KX11_needNumber [zI s, zI a, zI b] lay (tC x σ C0) nx (1, 6) (zGd (a ≤ s ∧ s ≤ b) zEa lay (tC x σ C0) nx (zR none lay (tC x (σ) (C0)) nx)) := by
  refine z_met' (L := [zI s, zI a, zI b]) gX11_needNumber.1 rfl rfl (Nat.le_of_ble_eq_true rfl) rfl ?_
  have hA := TpAt
  have hx := hT.1
  have hne : x + 0 ≠ -1 := by omega
  have hD := isCo.now
  refine z_il0 eX11_needNumber_0 ?_
  refine z_il1 eX11_needNumber_1 ?_
  refine z_icmp_lt (tgt := 10) eX11_needNumber_2 rfl ⟨⟨by omega, by omega⟩, ⟨by omega, by omega⟩⟩ (fun h2 => ?_) (fun h2 => ?_)
  · exact z_throwW (sn := 52) rfl zth_89 rfl rfl eX11_needNumber_10 eX11_needNumber_13 eX11_needNumber_14 eX11_needNumber_17 eX11_needNumber_20 (Nat.le_of_ble_eq_true rfl) ⟨(Nat.le_of_ble_eq_true rfl), (Nat.le_of_ble_eq_true rfl)⟩ (by first | exact Or.inr ⟨(by first | assumption | exact ⟨by omega, by omega⟩ | omega), rfl, rfl, rfl, rfl⟩)
  · refine z_il0 eX11_needNumber_5 ?_
    refine z_il2 eX11_needNumber_6 ?_
    refine z_icmp_le (tgt := 21) eX11_needNumber_7 rfl ⟨⟨by omega, by omega⟩, ⟨by omega, by omega⟩⟩ (fun h7 => ?_) (fun h7 => ?_)
    · refine z_return eX11_needNumber_21 rfl ?_
      first | exact Or.inl ⟨(by first | assumption | exact ⟨by omega, by omega⟩ | omega), ⟨rfl, rfl, rfl, rfl⟩⟩
    · exact z_throwW (sn := 52) rfl zth_89 rfl rfl eX11_needNumber_10 eX11_needNumber_13 eX11_needNumber_14 eX11_needNumber_17 eX11_needNumber_20 (Nat.le_of_ble_eq_true rfl) ⟨(Nat.le_of_ble_eq_true rfl), (Nat.le_of_ble_eq_true rfl)⟩ (by first | exact Or.inr ⟨(by first | assumption | exact ⟨by omega, by omega⟩ | omega), rfl, rfl, rfl, rfl⟩)
theorem c_X11_needTwo {G : zG} {lay : zLay} {σ C0 : zMem} {nx x : Int} (hT : TopL lay x) {s a : Int} (hs : zin s) (ha : zin a) : zMM G 7 KX11_needTwo [zI s, zI a] lay (tC x σ C0) nx (1, 6) (zGd (s ≠ a) zEa lay (tC x σ C0) nx (zR none lay (tC x (σ) (C0)) nx)) := by
  refine z_met' (L := [zI s, zI a]) gX11_needTwo.1 rfl rfl (Nat.le_of_ble_eq_true rfl) rfl ?_
  have hA := TpAt
  have hx := hT.1
  have hne : x + 0 ≠ -1 := by omega
  have hD := isCo.now
  refine z_il0 eX11_needTwo_0 ?_
  refine z_il1 eX11_needTwo_1 ?_
  refine z_icmp_ne (tgt := 16) eX11_needTwo_2 rfl ⟨⟨by omega, by omega⟩, ⟨by omega, by omega⟩⟩ (fun h2 => ?_) (fun h2 => ?_)
  · refine z_return eX11_needTwo_16 rfl ?_
    first | exact Or.inl ⟨(by first | assumption | exact ⟨by omega, by omega⟩ | omega), ⟨rfl, rfl, rfl, rfl⟩⟩
  · exact z_throwW (sn := 57) rfl zth_89 rfl rfl eX11_needTwo_5 eX11_needTwo_8 eX11_needTwo_9 eX11_needTwo_12 eX11_needTwo_15 (Nat.le_of_ble_eq_true rfl) ⟨(Nat.le_of_ble_eq_true rfl), (Nat.le_of_ble_eq_true rfl)⟩ (by first | exact Or.inr ⟨(by first | assumption | exact ⟨by omega, by omega⟩ | omega), rfl, rfl, rfl, rfl⟩)
theorem c_X11_needMember {G : zG} {lay : zLay} {σ C0 : zMem} {nx x : Int} (hT : TopL lay x) {s : Int} {M : Int → Int} (hN : CoN σ (0 + 2) M) (hI : zInv M) (hs : zin s) : zMM G 7 KX11_needMember [zP (x + 0), zI s] lay (tC x σ C0) nx (1, 6) (zGd (0 ≤ s ∧ s < M 3) zEb lay (tC x σ C0) nx (zR none lay (tC x (σ) (C0)) nx)) := by
  refine z_met' (L := [zP (x + 0), zI s]) gX11_needMember.1 rfl rfl (Nat.le_of_ble_eq_true rfl) rfl ?_
  have hA := TpAt
  have hx := hT.1
  have hne : x + 0 ≠ -1 := by omega
  have hD := isCo.now
  have hm3 := hI.m3
  refine z_il1 eX11_needMember_0 ?_
  refine z_if_lt (tgt := 15) eX11_needMember_1 rfl ⟨by omega, by omega⟩ (fun h1 => ?_) (fun h1 => ?_)
  · exact z_throwW (sn := 45) rfl zth_441 rfl rfl eX11_needMember_15 eX11_needMember_18 eX11_needMember_19 eX11_needMember_22 eX11_needMember_25 (Nat.le_of_ble_eq_true rfl) ⟨(Nat.le_of_ble_eq_true rfl), (Nat.le_of_ble_eq_true rfl)⟩ (by first | exact Or.inr ⟨(by first | assumption | exact ⟨by omega, by omega⟩ | omega), rfl, rfl, rfl, rfl⟩)
  · refine z_il1 eX11_needMember_4 ?_
    refine z_al0 eX11_needMember_5 hne ?_
    first | refine z_ta0 lX11_20 eX11_needMember_6 rfl hT hA (by decide) rfl rfl ?_ | refine z_ta lX11_20 eX11_needMember_6 rfl hT hA ⟨by decide, by decide⟩ rfl rfl ?_
    first | refine z_tg0 (j := 1) lX11_321 eX11_needMember_9 rfl hT hD (by decide) rfl rfl rfl ?_ | refine z_tg (j := 1) lX11_321 eX11_needMember_9 rfl hT hD ⟨by decide, by decide⟩ rfl rfl rfl ?_
    rw [hN.n3]
    refine z_icmp_lt (tgt := 26) eX11_needMember_12 rfl ⟨⟨by omega, by omega⟩, ⟨by omega, by omega⟩⟩ (fun h12 => ?_) (fun h12 => ?_)
    · refine z_return eX11_needMember_26 rfl ?_
      first | exact Or.inl ⟨(by first | assumption | exact ⟨by omega, by omega⟩ | omega), ⟨rfl, rfl, rfl, rfl⟩⟩
    · exact z_throwW (sn := 45) rfl zth_441 rfl rfl eX11_needMember_15 eX11_needMember_18 eX11_needMember_19 eX11_needMember_22 eX11_needMember_25 (Nat.le_of_ble_eq_true rfl) ⟨(Nat.le_of_ble_eq_true rfl), (Nat.le_of_ble_eq_true rfl)⟩ (by first | exact Or.inr ⟨(by first | assumption | exact ⟨by omega, by omega⟩ | omega), rfl, rfl, rfl, rfl⟩)
