/-! Throws whose text has a wide index; the checks. -/
section ZTHW
variable {G : zG} {k : zK} {D : Nat} {Q : zQ} {lay : zLay} {C : zMem} {nx : Int} {b : Nat × Nat} {L : List zAV} {pc : Nat}
theorem z_throwW {own E text : String} {ik is ic sn p3 p4 p7 p10 pe : Nat} {bytes : List Int} (hk0 : own = k.1.cls) (hth : zTh own ik ic E) (hstr : zStr[sn]? = some (own, is, text, bytes)) (hh : k.2.2.2.2 = [])
    (d0 : zD k pc (.new ik) 3 p3) (d3 : zD k p3 .dup 1 p4) (d4 : zD k p4 (.ldc_w is) 3 p7) (d6 : zD k p7 (.invokespecial ic) 3 p10) (d9 : zD k p10 .athrow 1 pe) (hD : 6 ≤ D) (hb : 1 ≤ b.1 ∧ 6 ≤ b.2) (hQ : Q (.inr E) lay C nx) : zW G k D Q pc L [] lay C nx b := by
  subst hk0
  intro p e R s m args below meth c H locs cells slots mc ms ls α₀ lay₀ α cx he hw hL hs hz hlo hc hm hl
  obtain ⟨t1, t2, t3, t4⟩ := hth
  have hts := cx.2.2.2.2.2.1
  have hK := cx.2.2.2.2.2.2.2.2.2.1
  obtain ⟨d0, rfl⟩ := d0
  obtain ⟨d3, rfl⟩ := d3
  obtain ⟨d4, rfl⟩ := d4
  obtain ⟨d6, rfl⟩ := d6
  have hh0 := cx.2.2.2.2.2.2.2.2.2.2.1
  have hR3 := cx.2.2.2.2.2.2.2.2.2.2.2.2.1
  have hR4 := cx.2.2.2.2.2.2.2.2.2.2.2.2.2.1
  have hR5 := cx.2.2.2.2.2.2.2.2.2.2.2.2.2.2.1
  have hR6 := cx.2.2.2.2.2.2.2.2.2.2.2.2.2.2.2.1
  refine vx_throwSW (own := k.1.cls) (cls := E) (text := text) (names := zXn) (A := fun a => G.2.1.size ≤ a) cx.1 cx.2.1 cx.2.2.2.2.2.2.2.2.2.2.2.2.2.2.2.2 cx.2.2.2.2.1 t1 zfitX (hts _ t2) (hts _ t3) (hK.2.2.2.2.1 sn _ hstr).1 (fun w hw => ?_) (fun w hw => ?_)
    (hK.2.2.2.2.2.1.to hh0) (hK.2.2.2.2.2.2.1.to hh0) ⟨hz, fun q hq hA => ?_, hlo⟩ (by rw [hl.1, cx.2.2.1]) d0 d3 d4 d6 d9.1 (fun x hx => ?_) (by show 2 + 3 < R.frames; omega) (by show 0 + (13 * (2 + 1) + 43) ≤ R.locals; omega) (by omega) (by omega) cx.2.2.2.2.2.2.1
    (fun t hA hsz hq => ⟨lay, C, nx, α, hQ, ?_, he, by omega⟩) hlo (by omega) (by omega)
  · rcases t4 w hw with h | h
    · exact hts w h
    · exact va_Nw.use (z_nestT w h) (hK.2.1 w h)
  · have good : ∀ w, w ∈ zTg ∨ w ∈ zNest → vx_ot w = true := fun w h => by
      unfold vx_ot
      rcases h with h | h
      · rw [zTg_good w h, Bool.or_true]
      · rw [z_nestT w h, Bool.true_or]
    rcases List.mem_cons.mp hw with rfl | hw
    · exact good _ (Or.inl t2)
    rcases List.mem_cons.mp hw with rfl | hw
    · exact good _ (Or.inl t3)
    · exact good w (t4 w hw)
  · have h1 : q < G.2.1.size := Nat.not_le.mp hA
    rw [hw.1 q h1, hh0 q h1]
  · rw [cx.2.2.2.2.2.2.2.2.1, hh] at hx
    exact absurd hx (by simp [tableOf])
  · exact zWR.grow hw hsz hq
end ZTHW
abbrev zEb : String := "java/lang/IndexOutOfBoundsException"
abbrev zEa : String := "java/lang/IllegalArgumentException"
abbrev zEs : String := "java/lang/IllegalStateException"
abbrev zEu : String := "java/lang/UnsupportedOperationException"
abbrev zEn : String := "java/util/NoSuchElementException"
theorem zth_441 : zTh "DrizzleVote" 441 445 zEb := by unfold zTh; decide +kernel
theorem zth_89 : zTh "DrizzleVote" 89 93 zEa := by unfold zTh; decide +kernel
theorem zth_244 : zTh "DrizzleVote" 244 248 zEs := by unfold zTh; decide +kernel
theorem zth_99 : zTh "DrizzleVote" 99 103 zEu := by unfold zTh; decide +kernel
/-- an end that may be a throw; then nothing is changed but what C says -/
def zE (r : zO) (lay : zLay) (C : zMem) (nx : Int) : zQ := fun o l c n => o = r ∧ l = lay ∧ c = C ∧ n = nx
def zEr (P : Prop) [Decidable P] (E : String) : zO := if P then .inl none else .inr E
theorem zEr_t {P : Prop} [Decidable P] {E : String} (h : P) : zEr P E = .inl none := if_pos h
theorem zEr_f {P : Prop} [Decidable P] {E : String} (h : ¬ P) : zEr P E = .inr E := if_neg h
