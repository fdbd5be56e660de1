/-! The class's objects: the cells x, x + 1 .. x + 312 but for the first Law's (297 to 302), in the order in which the constructors make them. -/
def layCo (i : Int) : Nat × Int := if i = 0 then (2, 15) else if i = 1 then (100, 7) else if i = 2 then (100, 7) else if i = 3 then (100, 8) else if i = 4 then (10, 7) else if i = 5 then (100, 25) else if i = 6 then (100, 5) else if i = 7 then (100, 5) else if i = 8 then (7, 7) else if i < 14 then (100, 8) else if i = 14 then (100, 12) else if i = 15 then (6, 2) else if i = 16 then (100, 300) else (100, 10)
def rfCo (i j : Int) : Option Int := if i = 0 then (if j = 2 then some 1 else if j = 3 then some 2 else if j = 6 then some 3 else if j = 11 then some 4 else if j = 12 then some 8 else if j = 13 then some 15 else if j = 14 then some 17 else none) else if i = 4 then (if j = 4 then some 5 else if j = 5 then some 6 else if j = 6 then some 7 else none) else if i = 8 then (if j = 1 then some 9 else if j = 2 then some 10 else if j = 3 then some 11 else if j = 4 then some 12 else if j = 5 then some 13 else if j = 6 then some 14 else none) else if i = 15 then (if j = 1 then some 16 else none) else none
/-- the part of a council that cell i of the top lies in: its first cell -/
def coB (i : Int) : Option Int := if 2 ≤ i ∧ i < 56 then some (2 + 18 * ((i - 2) / 18)) else if 57 ≤ i ∧ i < 273 then some (57 + 18 * ((i - 57) / 18)) else if 276 ≤ i ∧ i < 294 then some 276 else none
def layT (i : Int) : Nat × Int := match coB i with
  | some b => layCo (i - b)
  | none => if i = 0 then (12, 15) else if i = 1 then (100, 400) else if i = 56 then (102, 12) else if i = 273 then (1, 2) else if i = 274 then (11, 6) else if i = 275 then (100, 0) else if i = 294 then (5, 2) else if i = 295 then (11, 6) else if i = 296 then (100, 0) else if i = 303 then (3, 3) else if i = 304 then (100, 12) else if i = 305 then (100, 5) else if i = 306 then (100, 5) else if i = 307 then (9, 4) else if i = 308 then (100, 8) else if i = 309 then (100, 8) else if i = 310 then (8, 4) else if i = 311 then (100, 3328) else (100, 96)
def rfT (i j : Int) : Option Int := match coB i with
  | some b => (rfCo (i - b) j).map (fun t => b + t)
  | none => if i = 0 then (if j = 0 then some 1 else if j = 3 then some 2 else if j = 4 then some 20 else if j = 5 then some 38 else if j = 7 then some 56 else if j = 10 then some 273 else if j = 11 then some 294 else if j = 12 then some 303 else if j = 13 then some 307 else if j = 14 then some 310 else none) else if i = 56 then (if 0 ≤ j ∧ j < 12 then some (57 + 18 * j) else none) else if i = 273 then (if j = 0 then some 274 else if j = 1 then some 276 else none) else if i = 294 then (if j = 0 then some 295 else none) else if i = 303 then (if j = 0 then some 304 else if j = 1 then some 305 else if j = 2 then some 306 else none) else if i = 307 then (if j = 1 then some 308 else if j = 3 then some 309 else none) else if i = 310 then (if j = 0 then some 311 else if j = 1 then some 312 else none) else none
def inT (i : Int) : Prop := (0 ≤ i ∧ i < 297) ∨ (303 ≤ i ∧ i < 313)
def TopL (lay : zLay) (x : Int) : Prop := 0 ≤ x ∧ ∀ i : Int, inT i → lay (x + i) = layT i
noncomputable def tC (x : Int) (σ C0 : zMem) : zMem := fun o j => zif (inT (o - x)) (match rfT (o - x) j with | some t => x + t | none => σ (o - x) j) (C0 o j)
theorem tC_n {x : Int} {σ C0 : zMem} {i j : Int} (hi : inT i) (h : rfT i j = none) : tC x σ C0 (x + i) j = σ i j := by
  unfold tC
  rw [show x + i - x = i by omega, zif_t hi, h]
theorem tC_s {x : Int} {σ C0 : zMem} {i j t : Int} (hi : inT i) (h : rfT i j = some t) : tC x σ C0 (x + i) j = x + t := by
  unfold tC
  rw [show x + i - x = i by omega, zif_t hi, h]
theorem tC_out {x : Int} {σ C0 : zMem} {o j : Int} (h : ¬ inT (o - x)) : tC x σ C0 o j = C0 o j := by
  unfold tC
  rw [zif_f h]
theorem tC_set {x : Int} {σ C0 : zMem} {i j v : Int} (hi : inT i) (h : rfT i j = none) : zset (tC x σ C0) (x + i) j v = tC x (zset σ i j v) C0 := by
  funext o' j'
  unfold zset tC
  by_cases h1 : o' = x + i ∧ j' = j
  · obtain ⟨h1, rfl⟩ := h1
    subst h1
    rw [if_pos ⟨rfl, rfl⟩, show x + i - x = i by omega, zif_t hi, h]
    simp
  · rw [if_neg h1]
    by_cases h2 : inT (o' - x)
    · rw [zif_t h2, zif_t h2]
      cases hr : rfT (o' - x) j' with
      | some t => rfl
      | none =>
        dsimp only
        rw [if_neg (by omega)]
    · rw [zif_f h2, zif_f h2]
theorem tC_out_set {x : Int} {σ C0 : zMem} {o j v : Int} (h : ¬ inT (o - x)) : zset (tC x σ C0) o j v = tC x σ (zset C0 o j v) := by
  funext o' j'
  unfold zset tC
  by_cases h1 : o' = o ∧ j' = j
  · rw [if_pos h1, h1.1, zif_f h]; exact (if_pos (⟨rfl, h1.2⟩ : o = o ∧ j' = j)).symm
  · rw [if_neg h1]
    by_cases h2 : inT (o' - x)
    · rw [zif_t h2, zif_t h2]
    · rw [zif_f h2, zif_f h2]; exact (if_neg h1).symm
def zcp (σ : zMem) (s t sp dp n : Int) : zMem := fun i j => if i = t ∧ dp ≤ j ∧ j < dp + n then σ s (sp + (j - dp)) else σ i j
theorem tC_cp {x : Int} {σ C0 : zMem} {s t sp dp n : Int} (hs : inT s) (ht : inT t) (h1 : ∀ j, rfT s j = none) (h2 : ∀ j, rfT t j = none) : zcpy (tC x σ C0) (x + s) (x + t) sp dp n = tC x (zcp σ s t sp dp n) C0 := by
  funext o j
  unfold zcpy
  by_cases e : o = x + t ∧ dp ≤ j ∧ j < dp + n
  · rw [if_pos e, tC_n hs (h1 _), e.1, tC_n ht (h2 _)]
    unfold zcp
    rw [if_pos ⟨rfl, e.2⟩]
  · rw [if_neg e]
    unfold tC
    by_cases h3 : inT (o - x)
    · rw [zif_t h3, zif_t h3]
      cases rfT (o - x) j with
      | some t => rfl
      | none =>
        unfold zcp
        dsimp only
        rw [if_neg (by omega)]
    · rw [zif_f h3, zif_f h3]
/-- a shape that lies at b: n cells, their kinds l, their references r -/
def zAt (n : Int) (l : Int → Nat × Int) (r : Int → Int → Option Int) (b : Int) : Prop := (∀ i, 0 ≤ i → i < n → inT (b + i)) ∧ (∀ i, 0 ≤ i → i < n → layT (b + i) = l i) ∧ (∀ i j, 0 ≤ i → i < n → rfT (b + i) j = (r i j).map (fun t => b + t))
section ZTOP
variable {G : zG} {k : zK} {D : Nat} {Q : zQ} {pc pc' idx : Nat} {L st : List zAV} {lay : zLay} {σ C0 : zMem} {nx x : Int} {bb : Nat × Nat} {own : String} {kf ci : Nat} {ty : FieldType} {fin : Bool} {n b m : Int} {l : Int → Nat × Int} {r : Int → Int → Option Int}
theorem zAt.nn (h : zAt n l r b) {i j : Int} (hi : 0 ≤ i ∧ i < n) (hn : r i j = none) : rfT (b + i) j = none := by rw [h.2.2 i j hi.1 hi.2, hn]; rfl
theorem zAt.ss (h : zAt n l r b) {i j t : Int} (hi : 0 ≤ i ∧ i < n) (hn : r i j = some t) : rfT (b + i) j = some (b + t) := by rw [h.2.2 i j hi.1 hi.2, hn]; rfl
theorem zAt.LL (h : zAt n l r b) (hT : TopL lay x) {i : Int} (hi : 0 ≤ i ∧ i < n) : lay (x + (b + i)) = l i := by rw [hT.2 _ (h.1 i hi.1 hi.2), h.2.1 i hi.1 hi.2]
theorem zAt.L0 (h : zAt n l r b) (hT : TopL lay x) (hn : 0 < n) : lay (x + b) = l 0 := by
  have := h.LL hT (i := 0) ⟨Int.le_refl 0, hn⟩
  rwa [Int.add_zero] at this
theorem z_tg {j : Int} (hf : zFl own idx ci kf 0 ty fin) (hd : zD k pc (.getfield idx) 3 pc') (hk : own = k.1.cls) (hT : TopL lay x) (hA : zAt n l r b) {i : Int} (hi : 0 ≤ i ∧ i < n) (hl : l i = (ci + 1, m)) (hj : (kf : Int) = j) (hn : r i j = none) (w : zW G k D Q pc' L (zI (σ (b + i) j) :: st) lay (tC x σ C0) nx bb) : zW G k D Q pc L (zP (x + (b + i)) :: st) lay (tC x σ C0) nx bb :=
  z_getfield hf hd hk ((hA.LL hT hi).trans hl) (by rw [hj, tC_n (hA.1 i hi.1 hi.2) (hA.nn hi hn)]; exact w)
theorem z_td {j : Int} (hf : zFl own idx ci kf 2 ty fin) (hd : zD k pc (.getfield idx) 3 pc') (hk : own = k.1.cls) (hT : TopL lay x) (hA : zAt n l r b) {i : Int} (hi : 0 ≤ i ∧ i < n) (hl : l i = (ci + 1, m)) (hj : (kf : Int) = j) (hn : r i j = none) (w : zW G k D Q pc' L (zP (σ (b + i) j) :: st) lay (tC x σ C0) nx bb) : zW G k D Q pc L (zP (x + (b + i)) :: st) lay (tC x σ C0) nx bb :=
  z_getfield hf hd hk ((hA.LL hT hi).trans hl) (by rw [hj, tC_n (hA.1 i hi.1 hi.2) (hA.nn hi hn)]; exact w)
theorem z_ta {t : Int} (hf : zFl own idx ci kf 2 ty fin) (hd : zD k pc (.getfield idx) 3 pc') (hk : own = k.1.cls) (hT : TopL lay x) (hA : zAt n l r b) {i : Int} (hi : 0 ≤ i ∧ i < n) (hl : l i = (ci + 1, m)) (hn : r i kf = some t) (w : zW G k D Q pc' L (zP (x + (b + t)) :: st) lay (tC x σ C0) nx bb) : zW G k D Q pc L (zP (x + (b + i)) :: st) lay (tC x σ C0) nx bb :=
  z_getfield hf hd hk ((hA.LL hT hi).trans hl) (by rw [tC_s (hA.1 i hi.1 hi.2) (hA.ss hi hn)]; exact w)
theorem z_tp {j v : Int} (hf : zFl own idx ci kf 0 .int false) (hd : zD k pc (.putfield idx) 3 pc') (hk : own = k.1.cls) (hT : TopL lay x) (hA : zAt n l r b) {i : Int} (hi : 0 ≤ i ∧ i < n) (hl : l i = (ci + 1, m)) (hj : (kf : Int) = j) (hn : r i j = none) (w : zW G k D Q pc' L st lay (tC x (zset σ (b + i) j v) C0) nx bb) : zW G k D Q pc L (zI v :: zP (x + (b + i)) :: st) lay (tC x σ C0) nx bb :=
  z_putfield (tg := 0) hf hd hk ((hA.LL hT hi).trans hl) zfit_I (Or.inl rfl) (by rw [hj, tC_set (hA.1 i hi.1 hi.2) (hA.nn hi hn)]; exact w)
theorem z_tpz {j v : Int} (hf : zFl own idx ci kf 0 .boolean false) (hd : zD k pc (.putfield idx) 3 pc') (hk : own = k.1.cls) (hT : TopL lay x) (hA : zAt n l r b) {i : Int} (hi : 0 ≤ i ∧ i < n) (hl : l i = (ci + 1, m)) (hj : (kf : Int) = j) (hn : r i j = none) (hv : v = 0 ∨ v = 1) (w : zW G k D Q pc' L st lay (tC x (zset σ (b + i) j v) C0) nx bb) : zW G k D Q pc L (zI v :: zP (x + (b + i)) :: st) lay (tC x σ C0) nx bb :=
  z_putfield (tg := 0) hf hd hk ((hA.LL hT hi).trans hl) (zfit_Z hv) (Or.inl rfl) (by rw [hj, tC_set (hA.1 i hi.1 hi.2) (hA.nn hi hn)]; exact w)
theorem z_tpd {j v : Int} (hf : zFl own idx ci kf 2 ty false) (hd : zD k pc (.putfield idx) 3 pc') (hk : own = k.1.cls) (hr : ty.isReference = true) (hT : TopL lay x) (hA : zAt n l r b) {i : Int} (hi : 0 ≤ i ∧ i < n) (hl : l i = (ci + 1, m)) (hj : (kf : Int) = j) (hn : r i j = none) (w : zW G k D Q pc' L st lay (tC x (zset σ (b + i) j v) C0) nx bb) : zW G k D Q pc L (zP v :: zP (x + (b + i)) :: st) lay (tC x σ C0) nx bb :=
  z_putfield (tg := 2) hf hd hk ((hA.LL hT hi).trans hl) (zfit_P hr) (Or.inl rfl) (by rw [hj, tC_set (hA.1 i hi.1 hi.2) (hA.nn hi hn)]; exact w)
theorem z_tg0 {j : Int} (hf : zFl own idx ci kf 0 ty fin) (hd : zD k pc (.getfield idx) 3 pc') (hk : own = k.1.cls) (hT : TopL lay x) (hA : zAt n l r b) (hn9 : 0 < n) (hl : l 0 = (ci + 1, m)) (hj : (kf : Int) = j) (hn : r 0 j = none) (w : zW G k D Q pc' L (zI (σ b j) :: st) lay (tC x σ C0) nx bb) : zW G k D Q pc L (zP (x + b) :: st) lay (tC x σ C0) nx bb :=
  z_getfield hf hd hk ((hA.L0 hT hn9).trans hl) (by rw [hj, tC_n (by have := hA.1 0 (Int.le_refl 0) hn9; rwa [Int.add_zero] at this) (by have := hA.nn (i := 0) ⟨Int.le_refl 0, hn9⟩ hn; rwa [Int.add_zero] at this)]; exact w)
theorem z_td0 {j : Int} (hf : zFl own idx ci kf 2 ty fin) (hd : zD k pc (.getfield idx) 3 pc') (hk : own = k.1.cls) (hT : TopL lay x) (hA : zAt n l r b) (hn9 : 0 < n) (hl : l 0 = (ci + 1, m)) (hj : (kf : Int) = j) (hn : r 0 j = none) (w : zW G k D Q pc' L (zP (σ b j) :: st) lay (tC x σ C0) nx bb) : zW G k D Q pc L (zP (x + b) :: st) lay (tC x σ C0) nx bb :=
  z_getfield hf hd hk ((hA.L0 hT hn9).trans hl) (by rw [hj, tC_n (by have := hA.1 0 (Int.le_refl 0) hn9; rwa [Int.add_zero] at this) (by have := hA.nn (i := 0) ⟨Int.le_refl 0, hn9⟩ hn; rwa [Int.add_zero] at this)]; exact w)
theorem z_ta0 {t : Int} (hf : zFl own idx ci kf 2 ty fin) (hd : zD k pc (.getfield idx) 3 pc') (hk : own = k.1.cls) (hT : TopL lay x) (hA : zAt n l r b) (hn9 : 0 < n) (hl : l 0 = (ci + 1, m)) (hn : r 0 kf = some t) (w : zW G k D Q pc' L (zP (x + (b + t)) :: st) lay (tC x σ C0) nx bb) : zW G k D Q pc L (zP (x + b) :: st) lay (tC x σ C0) nx bb :=
  z_getfield hf hd hk ((hA.L0 hT hn9).trans hl) (by rw [tC_s (by have := hA.1 0 (Int.le_refl 0) hn9; rwa [Int.add_zero] at this) (by have := hA.ss (i := 0) ⟨Int.le_refl 0, hn9⟩ hn; rwa [Int.add_zero] at this)]; exact w)
theorem z_tp0 {j v : Int} (hf : zFl own idx ci kf 0 .int false) (hd : zD k pc (.putfield idx) 3 pc') (hk : own = k.1.cls) (hT : TopL lay x) (hA : zAt n l r b) (hn9 : 0 < n) (hl : l 0 = (ci + 1, m)) (hj : (kf : Int) = j) (hn : r 0 j = none) (w : zW G k D Q pc' L st lay (tC x (zset σ b j v) C0) nx bb) : zW G k D Q pc L (zI v :: zP (x + b) :: st) lay (tC x σ C0) nx bb :=
  z_putfield (tg := 0) hf hd hk ((hA.L0 hT hn9).trans hl) zfit_I (Or.inl rfl) (by rw [hj, tC_set (by have := hA.1 0 (Int.le_refl 0) hn9; rwa [Int.add_zero] at this) (by have := hA.nn (i := 0) ⟨Int.le_refl 0, hn9⟩ hn; rwa [Int.add_zero] at this)]; exact w)
theorem z_tpz0 {j v : Int} (hf : zFl own idx ci kf 0 .boolean false) (hd : zD k pc (.putfield idx) 3 pc') (hk : own = k.1.cls) (hT : TopL lay x) (hA : zAt n l r b) (hn9 : 0 < n) (hl : l 0 = (ci + 1, m)) (hj : (kf : Int) = j) (hn : r 0 j = none) (hv : v = 0 ∨ v = 1) (w : zW G k D Q pc' L st lay (tC x (zset σ b j v) C0) nx bb) : zW G k D Q pc L (zI v :: zP (x + b) :: st) lay (tC x σ C0) nx bb :=
  z_putfield (tg := 0) hf hd hk ((hA.L0 hT hn9).trans hl) (zfit_Z hv) (Or.inl rfl) (by rw [hj, tC_set (by have := hA.1 0 (Int.le_refl 0) hn9; rwa [Int.add_zero] at this) (by have := hA.nn (i := 0) ⟨Int.le_refl 0, hn9⟩ hn; rwa [Int.add_zero] at this)]; exact w)
theorem z_tpd0 {j v : Int} (hf : zFl own idx ci kf 2 ty false) (hd : zD k pc (.putfield idx) 3 pc') (hk : own = k.1.cls) (hr : ty.isReference = true) (hT : TopL lay x) (hA : zAt n l r b) (hn9 : 0 < n) (hl : l 0 = (ci + 1, m)) (hj : (kf : Int) = j) (hn : r 0 j = none) (w : zW G k D Q pc' L st lay (tC x (zset σ b j v) C0) nx bb) : zW G k D Q pc L (zP v :: zP (x + b) :: st) lay (tC x σ C0) nx bb :=
  z_putfield (tg := 2) hf hd hk ((hA.L0 hT hn9).trans hl) (zfit_P hr) (Or.inl rfl) (by rw [hj, tC_set (by have := hA.1 0 (Int.le_refl 0) hn9; rwa [Int.add_zero] at this) (by have := hA.nn (i := 0) ⟨Int.le_refl 0, hn9⟩ hn; rwa [Int.add_zero] at this)]; exact w)
theorem z_tl {i j : Int} (hd : zD k pc .iaload 1 pc') (hT : TopL lay x) (hA : zAt n l r b) (hi : 0 ≤ i ∧ i < n) (hl : l i = (100, m)) (hn : r i j = none) (hj : 0 ≤ j ∧ j < m) (w : zW G k D Q pc' L (zI (σ (b + i) j) :: st) lay (tC x σ C0) nx bb) : zW G k D Q pc L (zI j :: zP (x + (b + i)) :: st) lay (tC x σ C0) nx bb :=
  z_iaload hd ((hA.LL hT hi).trans hl) hj (by rw [tC_n (hA.1 i hi.1 hi.2) (hA.nn hi hn)]; exact w)
theorem z_ts {i j v : Int} (hd : zD k pc .iastore 1 pc') (hT : TopL lay x) (hA : zAt n l r b) (hi : 0 ≤ i ∧ i < n) (hl : l i = (100, m)) (hn : r i j = none) (hj : 0 ≤ j ∧ j < m) (w : zW G k D Q pc' L st lay (tC x (zset σ (b + i) j v) C0) nx bb) : zW G k D Q pc L (zI v :: zI j :: zP (x + (b + i)) :: st) lay (tC x σ C0) nx bb :=
  z_iastore hd ((hA.LL hT hi).trans hl) hj (by rw [tC_set (hA.1 i hi.1 hi.2) (hA.nn hi hn)]; exact w)
theorem z_tn {i : Int} (hd : zD k pc .arraylength 1 pc') (hT : TopL lay x) (hA : zAt n l r b) (hi : 0 ≤ i ∧ i < n) (hl : l i = (100, m)) (w : zW G k D Q pc' L (zI m :: st) lay (tC x σ C0) nx bb) : zW G k D Q pc L (zP (x + (b + i)) :: st) lay (tC x σ C0) nx bb :=
  z_alen hd ((hA.LL hT hi).trans hl) w
theorem z_tc {i i' b' n' m' sp dp q : Int} {l' : Int → Nat × Int} {r' : Int → Int → Option Int} (hd : zD k pc (.invokestatic idx) 3 pc') (hl9 : zacp k.1.cls idx) (hT : TopL lay x) (hA : zAt n l r b) (hA' : zAt n' l' r' b') (hi : 0 ≤ i ∧ i < n) (hi' : 0 ≤ i' ∧ i' < n') (hl : l i = (100, m)) (hl' : l' i' = (100, m')) (hn : ∀ j, r i j = none) (hn' : ∀ j, r' i' j = none) (h : 0 ≤ sp ∧ 0 ≤ dp ∧ 0 ≤ q ∧ sp + q ≤ m ∧ dp + q ≤ m') (hD : 1 ≤ D) (hrest : st.length ≤ 4) (w : zW G k D Q pc' L st lay (tC x (zcp σ (b + i) (b' + i') sp dp q) C0) nx bb) : zW G k D Q pc L (zI q :: zI dp :: zP (x + (b' + i')) :: zI sp :: zP (x + (b + i)) :: st) lay (tC x σ C0) nx bb :=
  z_copy hd hl9 ((hA.LL hT hi).trans hl) ((hA'.LL hT hi').trans hl') h hD hrest (by rw [tC_cp (hA.1 i hi.1 hi.2) (hA'.1 i' hi'.1 hi'.2) (fun j => hA.nn hi (hn j)) (fun j => hA'.nn hi' (hn' j))]; exact w)
end ZTOP
/-! What lies where. -/
theorem coB_c {i b : Int} (hb : b = 2 ∨ b = 20 ∨ b = 38 ∨ b = 276 ∨ ∃ c, 0 ≤ c ∧ c < 12 ∧ b = 57 + 18 * c) (hi : 0 ≤ i ∧ i < 18) : coB (b + i) = some b := by
  unfold coB
  rcases hb with e | e | e | e | ⟨c, c0, c1, e⟩
  · rw [if_pos (by omega)]; congr 1; omega
  · rw [if_pos (by omega)]; congr 1; omega
  · rw [if_pos (by omega)]; congr 1; omega
  · rw [if_neg (by omega), if_neg (by omega), if_pos (by omega)]; congr 1; omega
  · rw [if_neg (by omega), if_pos (by omega)]; congr 1; omega
/-- where councils lie -/
def isCo (b : Int) : Prop := b = 2 ∨ b = 20 ∨ b = 38 ∨ b = 276 ∨ ∃ c, 0 ≤ c ∧ c < 12 ∧ b = 57 + 18 * c
abbrev CoAt (b : Int) : Prop := zAt 18 layCo rfCo b
theorem isCo.at {b : Int} (h : isCo b) : CoAt b := by
  refine ⟨fun i i0 i1 => ?_, fun i i0 i1 => ?_, fun i j i0 i1 => ?_⟩
  · unfold inT
    rcases h with e | e | e | e | ⟨c, c0, c1, e⟩ <;> omega
  · unfold layT; rw [coB_c h ⟨i0, i1⟩]; show layCo (b + i - b) = _; rw [show b + i - b = i by omega]
  · unfold rfT; rw [coB_c h ⟨i0, i1⟩]; show (rfCo (b + i - b) j).map _ = _; rw [show b + i - b = i by omega]
theorem zAt.sub {n n' b c : Int} {l l' : Int → Nat × Int} {r r' : Int → Int → Option Int} (h : zAt n l r b) (hc : 0 ≤ c ∧ c + n' ≤ n) (hl : ∀ i, 0 ≤ i → i < n' → l (c + i) = l' i) (hr : ∀ i j, 0 ≤ i → i < n' → r (c + i) j = (r' i j).map (fun t => c + t)) : zAt n' l' r' (b + c) := by
  refine ⟨fun i i0 i1 => ?_, fun i i0 i1 => ?_, fun i j i0 i1 => ?_⟩
  · rw [Int.add_assoc]; exact h.1 _ (by omega) (by omega)
  · rw [Int.add_assoc, h.2.1 _ (by omega) (by omega)]; exact hl i i0 i1
  · rw [Int.add_assoc, h.2.2 _ _ (by omega) (by omega), hr i j i0 i1]
    cases r' i j with
    | none => rfl
    | some t => show some (b + (c + t)) = some (b + c + t); rw [Int.add_assoc]
def layWe (i : Int) : Nat × Int := if i = 0 then (10, 7) else if i = 1 then (100, 25) else (100, 5)
def rfWe (i j : Int) : Option Int := if i = 0 then (if j = 4 then some 1 else if j = 5 then some 2 else if j = 6 then some 3 else none) else none
def layMo (i : Int) : Nat × Int := if i = 0 then (7, 7) else if i < 6 then (100, 8) else (100, 12)
def rfMo (i j : Int) : Option Int := if i = 0 then (if j = 1 then some 1 else if j = 2 then some 2 else if j = 3 then some 3 else if j = 4 then some 4 else if j = 5 then some 5 else if j = 6 then some 6 else none) else none
def layLo (i : Int) : Nat × Int := if i = 0 then (6, 2) else (100, 300)
def rfLo (i j : Int) : Option Int := if i = 0 then (if j = 1 then some 1 else none) else none
abbrev WeAt (b : Int) : Prop := zAt 4 layWe rfWe b
abbrev MoAt (b : Int) : Prop := zAt 7 layMo rfMo b
abbrev LoAt (b : Int) : Prop := zAt 2 layLo rfLo b
theorem zcases {P : Int → Prop} {n : Nat} (h : ∀ m : Nat, m < n → P m) : ∀ i : Int, 0 ≤ i → i < n → P i := fun i i0 i1 => by
  have := h i.toNat (by omega)
  rwa [Int.toNat_of_nonneg i0] at this
theorem CoAt.we {b : Int} (h : CoAt b) : WeAt (b + 4) := by
  refine h.sub (by decide) (zcases (n := 4) (by decide)) (fun i j i0 i1 => ?_)
  have : i = 0 ∨ i = 1 ∨ i = 2 ∨ i = 3 := by omega
  rcases this with e | e | e | e <;> subst e
  · show rfCo 4 j = _
    unfold rfCo rfWe
    rw [if_neg (by decide), if_pos rfl, if_pos rfl]
    (repeat' split) <;> first | rfl | omega
  all_goals rfl
theorem CoAt.mo {b : Int} (h : CoAt b) : MoAt (b + 8) := by
  refine h.sub (by decide) (zcases (n := 7) (by decide)) (fun i j i0 i1 => ?_)
  have : i = 0 ∨ i = 1 ∨ i = 2 ∨ i = 3 ∨ i = 4 ∨ i = 5 ∨ i = 6 := by omega
  rcases this with e | e | e | e | e | e | e <;> subst e
  · show rfCo 8 j = _
    unfold rfCo rfMo
    rw [if_neg (by decide), if_neg (by decide), if_pos rfl, if_pos rfl]
    (repeat' split) <;> first | rfl | omega
  all_goals rfl
theorem CoAt.lo {b : Int} (h : CoAt b) : LoAt (b + 15) := by
  refine h.sub (by decide) (zcases (n := 2) (by decide)) (fun i j i0 i1 => ?_)
  have : i = 0 ∨ i = 1 := by omega
  rcases this with e | e <;> subst e
  · show rfCo 15 j = _
    unfold rfCo rfLo
    rw [if_neg (by decide), if_neg (by decide), if_neg (by decide), if_pos rfl, if_pos rfl]
    (repeat' split) <;> first | rfl | omega
  all_goals rfl
