/-! The law's cases. -/
section ZCASES
variable {G : zG} {Q : zQ} {lay : zLay} {C s σ : zMem} {x y nx W n i : Int} {S : Int → Int} {v5 v6 : zAV} {c : Nat × Nat}
theorem l_0 (hg : zGo G Q x y W n i S c) (hz : ∀ j, zin (S j)) (hi : 0 ≤ i ∧ i + 6 ≤ n) (hL : n < 2147483648) (h : Lp lay x y nx W n S C s σ) : zW G KL_law_ 100 Q 304 (zLL x y W i v5 v6) [] lay (tC x s C) nx (7 + c.1, 473 + c.2) := by
  obtain ⟨kk, u, v', P', h012, hv, hPv, hC, hR⟩ := p_feed (G := G) (nx := nx) (a := S (i + 1)) (c := S (i + 2)) (d := S (i + 3)) (e := S (i + 4)) (f := S (i + 5)) h.wd h.re 
  have hk0 : kk = 0 := hPv
  subst hk0
  have hu : u = v' := hv rfl
  subst hu
  refine zW.mono (b' := (0 + c.1, 0 + c.2)) ⟨Nat.add_le_add_right (by decide) _, Nat.add_le_add_right (by decide) _⟩ ?_
  refine z_al1 eL_law__304 h.wd.xne ?_
  refine z_arg (v := S (i + 1)) eL_law__305 eL_law__306 eL_law__308 eL_law__309 eL_law__310 h.sc hL ⟨by omega, by omega⟩ h.st ?_
  refine z_arg (v := S (i + 2)) eL_law__311 eL_law__312 eL_law__314 eL_law__315 eL_law__316 h.sc hL ⟨by omega, by omega⟩ h.st ?_
  refine z_arg (v := S (i + 3)) eL_law__317 eL_law__318 eL_law__320 eL_law__321 eL_law__322 h.sc hL ⟨by omega, by omega⟩ h.st ?_
  refine z_arg (v := S (i + 4)) eL_law__323 eL_law__324 eL_law__326 eL_law__327 eL_law__328 h.sc hL ⟨by omega, by omega⟩ h.st ?_
  refine z_arg (v := S (i + 5)) eL_law__329 eL_law__330 eL_law__332 eL_law__333 eL_law__334 h.sc hL ⟨by omega, by omega⟩ h.st ?_
  refine z_dst (av := [zI (S (i + 1)), zI (S (i + 2)), zI (S (i + 3)), zI (S (i + 4)), zI (S (i + 5))]) (st := []) eL_law__335 vL_154 hC (Nat.le_of_ble_eq_true rfl) rfl (Nat.le_of_ble_eq_true rfl) h (fun l m s' C' h2 => ?_)
  refine z_al2 eL_law__338 h2.wd.yne ?_
  refine z_arg (v := S (i + 1)) eL_law__339 eL_law__340 eL_law__342 eL_law__343 eL_law__344 h2.sc hL ⟨by omega, by omega⟩ h2.st ?_
  refine z_arg (v := S (i + 2)) eL_law__345 eL_law__346 eL_law__348 eL_law__349 eL_law__350 h2.sc hL ⟨by omega, by omega⟩ h2.st ?_
  refine z_arg (v := S (i + 3)) eL_law__351 eL_law__352 eL_law__354 eL_law__355 eL_law__356 h2.sc hL ⟨by omega, by omega⟩ h2.st ?_
  refine z_arg (v := S (i + 4)) eL_law__357 eL_law__358 eL_law__360 eL_law__361 eL_law__362 h2.sc hL ⟨by omega, by omega⟩ h2.st ?_
  refine z_arg (v := S (i + 5)) eL_law__363 eL_law__364 eL_law__366 eL_law__367 eL_law__368 h2.sc hL ⟨by omega, by omega⟩ h2.st ?_
  refine z_rst (av := [zI (S (i + 1)), zI (S (i + 2)), zI (S (i + 3)), zI (S (i + 4)), zI (S (i + 5))]) (st := [zI u]) eL_law__369 vL_158 hR (Nat.le_of_ble_eq_true rfl) rfl (Nat.le_of_ble_eq_true rfl) h2 (fun C3 τ hk h3 hW => ?_)
  exact z_icmp_eq_rf eL_law__372 rfl (hg _ _ _ _ _ _ _ h3)
theorem l_1 (hg : zGo G Q x y W n i S c) (hz : ∀ j, zin (S j)) (hi : 0 ≤ i ∧ i + 6 ≤ n) (hL : n < 2147483648) (h : Lp lay x y nx W n S C s σ) : zW G KL_law_ 100 Q 377 (zLL x y W i v5 v6) [] lay (tC x s C) nx (7 + c.1, 473 + c.2) := by
  obtain ⟨kk, u, v', P', h012, hv, hPv, hC, hR⟩ := p_end (G := G) (nx := nx) (n := S (i + 1)) h.wd h.re (hz _)
  have hk0 : kk = 0 := hPv
  subst hk0
  have hu : u = v' := hv rfl
  subst hu
  refine zW.mono (b' := (0 + c.1, 0 + c.2)) ⟨Nat.add_le_add_right (by decide) _, Nat.add_le_add_right (by decide) _⟩ ?_
  refine z_al1 eL_law__377 h.wd.xne ?_
  refine z_arg (v := S (i + 1)) eL_law__378 eL_law__379 eL_law__381 eL_law__382 eL_law__383 h.sc hL ⟨by omega, by omega⟩ h.st ?_
  refine z_dst (av := [zI (S (i + 1))]) (st := []) eL_law__384 vL_159 hC (Nat.le_of_ble_eq_true rfl) rfl (Nat.le_of_ble_eq_true rfl) h (fun l m s' C' h2 => ?_)
  refine z_al2 eL_law__387 h2.wd.yne ?_
  refine z_arg (v := S (i + 1)) eL_law__388 eL_law__389 eL_law__391 eL_law__392 eL_law__393 h2.sc hL ⟨by omega, by omega⟩ h2.st ?_
  refine z_rst (av := [zI (S (i + 1))]) (st := [zI u]) eL_law__394 vL_163 hR (Nat.le_of_ble_eq_true rfl) rfl (Nat.le_of_ble_eq_true rfl) h2 (fun C3 τ hk h3 hW => ?_)
  exact z_icmp_eq_rf eL_law__397 rfl (hg _ _ _ _ _ _ _ h3)
theorem l_2 (hg : zGo G Q x y W n i S c) (hz : ∀ j, zin (S j)) (hi : 0 ≤ i ∧ i + 6 ≤ n) (hL : n < 2147483648) (h : Lp lay x y nx W n S C s σ) : zW G KL_law_ 100 Q 402 (zLL x y W i v5 v6) [] lay (tC x s C) nx (7 + c.1, 473 + c.2) := by
  obtain ⟨kk, u, v', P', h012, hv, hPv, hC, hR⟩ := p_coast (G := G) (nx := nx)  h.wd h.re 
  have hh := h_coast h.wd.T h.wd.d h.wl h.wx h012 hC
  refine zW.mono (b' := (1 + c.1, 6 + c.2)) ⟨Nat.add_le_add_right (by decide) _, Nat.add_le_add_right (by decide) _⟩ ?_
  refine z_al1 eL_law__402 h.wd.xne ?_
  refine z_al3 eL_law__403 (by have := h.wx; have := h.wd.R.1; omega) ?_
  refine z_hst (av := [zP (x + 0), zP W]) (st := []) eL_law__404 vL_164 hh (Nat.le_of_ble_eq_true rfl) rfl (Nat.le_of_ble_eq_true rfl) h (fun l m s' C' h2 hw => ?_)
  refine z_is5 eL_law__407 (Nat.ne_of_beq_eq_false rfl) ?_
  refine z_al2 eL_law__409 h2.wd.yne ?_
  refine z_rst (av := []) (st := []) eL_law__410 vL_169 hR (Nat.le_of_ble_eq_true rfl) rfl (Nat.le_of_ble_eq_true rfl) h2 (fun C3 τ hk h3 hW => ?_)
  exact z_tail hg h3 hk h012 (fun z => by rw [hW, hw z, hv z]) eL_law__413 eL_law__415 eL_law__416 eL_law__419 eL_law__421 rfl eL_law__426 eL_law__428 rfl eL_law__431 eL_law__432 eL_law__433 eL_law__434 eL_law__436 eL_law__437 eL_law__438 rfl eL_law__443 rfl
theorem l_3 (hg : zGo G Q x y W n i S c) (hz : ∀ j, zin (S j)) (hi : 0 ≤ i ∧ i + 6 ≤ n) (hL : n < 2147483648) (h : Lp lay x y nx W n S C s σ) : zW G KL_law_ 100 Q 446 (zLL x y W i v5 v6) [] lay (tC x s C) nx (7 + c.1, 473 + c.2) := by
  refine z_free (fun hf => ?_)
  obtain ⟨kk, u, v', P', h012, hv, hPv, hC, hR⟩ := p_law (G := G) (nx := nx)  h.wd h.re hf
  have hh := h_law h.wd.T h.wd.d h.wl h.wx h012 hC
  refine zW.mono (b' := (7 + c.1, 473 + c.2)) ⟨Nat.add_le_add_right (by decide) _, Nat.add_le_add_right (by decide) _⟩ ?_
  refine z_al1 eL_law__446 h.wd.xne ?_
  refine z_al3 eL_law__447 (by have := h.wx; have := h.wd.R.1; omega) ?_
  refine z_hst (av := [zP (x + 0), zP W]) (st := []) eL_law__448 vL_173 hh (Nat.le_of_ble_eq_true rfl) rfl (Nat.le_of_ble_eq_true rfl) h (fun l m s' C' h2 hw => ?_)
  refine z_is5 eL_law__451 (Nat.ne_of_beq_eq_false rfl) ?_
  refine z_al2 eL_law__453 h2.wd.yne ?_
  refine z_rst (av := []) (st := []) eL_law__454 vL_175 hR (Nat.le_of_ble_eq_true rfl) rfl (Nat.le_of_ble_eq_true rfl) h2 (fun C3 τ hk h3 hW => ?_)
  exact z_tail hg h3 hk h012 (fun z => by rw [hW, hw z, hv z]) eL_law__457 eL_law__459 eL_law__460 eL_law__463 eL_law__465 rfl eL_law__470 eL_law__472 rfl eL_law__475 eL_law__476 eL_law__477 eL_law__478 eL_law__480 eL_law__481 eL_law__482 rfl eL_law__487 rfl
theorem l_4 (hg : zGo G Q x y W n i S c) (hz : ∀ j, zin (S j)) (hi : 0 ≤ i ∧ i + 6 ≤ n) (hL : n < 2147483648) (h : Lp lay x y nx W n S C s σ) : zW G KL_law_ 100 Q 490 (zLL x y W i v5 v6) [] lay (tC x s C) nx (7 + c.1, 473 + c.2) := by
  obtain ⟨kk, u, v', P', h012, hv, hPv, hC, hR⟩ := p_fault (G := G) (nx := nx)  h.wd h.re 
  have hk0 : kk = 0 := hPv
  subst hk0
  have hu : u = v' := hv rfl
  subst hu
  refine zW.mono (b' := (0 + c.1, 0 + c.2)) ⟨Nat.add_le_add_right (by decide) _, Nat.add_le_add_right (by decide) _⟩ ?_
  refine z_al1 eL_law__490 h.wd.xne ?_
  refine z_dst (av := []) (st := []) eL_law__491 vL_176 hC (Nat.le_of_ble_eq_true rfl) rfl (Nat.le_of_ble_eq_true rfl) h (fun l m s' C' h2 => ?_)
  refine z_al2 eL_law__494 h2.wd.yne ?_
  refine z_rst (av := []) (st := [zI u]) eL_law__495 vL_179 hR (Nat.le_of_ble_eq_true rfl) rfl (Nat.le_of_ble_eq_true rfl) h2 (fun C3 τ hk h3 hW => ?_)
  exact z_icmp_eq_rf eL_law__498 rfl (hg _ _ _ _ _ _ _ h3)
theorem l_5 (hg : zGo G Q x y W n i S c) (hz : ∀ j, zin (S j)) (hi : 0 ≤ i ∧ i + 6 ≤ n) (hL : n < 2147483648) (h : Lp lay x y nx W n S C s σ) : zW G KL_law_ 100 Q 503 (zLL x y W i v5 v6) [] lay (tC x s C) nx (7 + c.1, 473 + c.2) := by
  obtain ⟨kk, u, v', P', h012, hv, hPv, hC, hR⟩ := p_member (G := G) (nx := nx) (p := S (i + 1)) (w := S (i + 2)) h.wd h.re (hz _) (hz _)
  have hh := h_member h.wd.T h.wd.d h.wl h.wx h012 hC
  refine zW.mono (b' := (2 + c.1, 12 + c.2)) ⟨Nat.add_le_add_right (by decide) _, Nat.add_le_add_right (by decide) _⟩ ?_
  refine z_al1 eL_law__503 h.wd.xne ?_
  refine z_arg (v := S (i + 1)) eL_law__504 eL_law__505 eL_law__507 eL_law__508 eL_law__509 h.sc hL ⟨by omega, by omega⟩ h.st ?_
  refine z_arg (v := S (i + 2)) eL_law__510 eL_law__511 eL_law__513 eL_law__514 eL_law__515 h.sc hL ⟨by omega, by omega⟩ h.st ?_
  refine z_al3 eL_law__516 (by have := h.wx; have := h.wd.R.1; omega) ?_
  refine z_hst (av := [zP (x + 0), zI (S (i + 1)), zI (S (i + 2)), zP W]) (st := []) eL_law__517 vL_180 hh (Nat.le_of_ble_eq_true rfl) rfl (Nat.le_of_ble_eq_true rfl) h (fun l m s' C' h2 hw => ?_)
  refine z_is5 eL_law__520 (Nat.ne_of_beq_eq_false rfl) ?_
  refine z_al2 eL_law__522 h2.wd.yne ?_
  refine z_arg (v := S (i + 1)) eL_law__523 eL_law__524 eL_law__526 eL_law__527 eL_law__528 h2.sc hL ⟨by omega, by omega⟩ h2.st ?_
  refine z_arg (v := S (i + 2)) eL_law__529 eL_law__530 eL_law__532 eL_law__533 eL_law__534 h2.sc hL ⟨by omega, by omega⟩ h2.st ?_
  refine z_rst (av := [zI (S (i + 1)), zI (S (i + 2))]) (st := []) eL_law__535 vL_183 hR (Nat.le_of_ble_eq_true rfl) rfl (Nat.le_of_ble_eq_true rfl) h2 (fun C3 τ hk h3 hW => ?_)
  exact z_tail hg h3 hk h012 (fun z => by rw [hW, hw z, hv z]) eL_law__538 eL_law__540 eL_law__541 eL_law__544 eL_law__546 rfl eL_law__551 eL_law__553 rfl eL_law__556 eL_law__557 eL_law__558 eL_law__559 eL_law__561 eL_law__562 eL_law__563 rfl eL_law__568 rfl
theorem l_6 (hg : zGo G Q x y W n i S c) (hz : ∀ j, zin (S j)) (hi : 0 ≤ i ∧ i + 6 ≤ n) (hL : n < 2147483648) (h : Lp lay x y nx W n S C s σ) : zW G KL_law_ 100 Q 571 (zLL x y W i v5 v6) [] lay (tC x s C) nx (7 + c.1, 473 + c.2) := by
  obtain ⟨kk, u, v', P', h012, hv, hPv, hC, hR⟩ := p_motion (G := G) (nx := nx) (k := S (i + 1)) (w := S (i + 2)) h.wd h.re (hz _) (hz _)
  have hh := h_motion h.wd.T h.wd.d h.wl h.wx h012 hC
  refine zW.mono (b' := (2 + c.1, 12 + c.2)) ⟨Nat.add_le_add_right (by decide) _, Nat.add_le_add_right (by decide) _⟩ ?_
  refine z_al1 eL_law__571 h.wd.xne ?_
  refine z_arg (v := S (i + 1)) eL_law__572 eL_law__573 eL_law__575 eL_law__576 eL_law__577 h.sc hL ⟨by omega, by omega⟩ h.st ?_
  refine z_arg (v := S (i + 2)) eL_law__578 eL_law__579 eL_law__581 eL_law__582 eL_law__583 h.sc hL ⟨by omega, by omega⟩ h.st ?_
  refine z_al3 eL_law__584 (by have := h.wx; have := h.wd.R.1; omega) ?_
  refine z_hst (av := [zP (x + 0), zI (S (i + 1)), zI (S (i + 2)), zP W]) (st := []) eL_law__585 vL_184 hh (Nat.le_of_ble_eq_true rfl) rfl (Nat.le_of_ble_eq_true rfl) h (fun l m s' C' h2 hw => ?_)
  refine z_is5 eL_law__588 (Nat.ne_of_beq_eq_false rfl) ?_
  refine z_al2 eL_law__590 h2.wd.yne ?_
  refine z_arg (v := S (i + 1)) eL_law__591 eL_law__592 eL_law__594 eL_law__595 eL_law__596 h2.sc hL ⟨by omega, by omega⟩ h2.st ?_
  refine z_arg (v := S (i + 2)) eL_law__597 eL_law__598 eL_law__600 eL_law__601 eL_law__602 h2.sc hL ⟨by omega, by omega⟩ h2.st ?_
  refine z_rst (av := [zI (S (i + 1)), zI (S (i + 2))]) (st := []) eL_law__603 vL_186 hR (Nat.le_of_ble_eq_true rfl) rfl (Nat.le_of_ble_eq_true rfl) h2 (fun C3 τ hk h3 hW => ?_)
  exact z_tail hg h3 hk h012 (fun z => by rw [hW, hw z, hv z]) eL_law__606 eL_law__608 eL_law__609 eL_law__612 eL_law__614 rfl eL_law__619 eL_law__621 rfl eL_law__624 eL_law__625 eL_law__626 eL_law__627 eL_law__629 eL_law__630 eL_law__631 rfl eL_law__636 rfl
theorem l_7 (hg : zGo G Q x y W n i S c) (hz : ∀ j, zin (S j)) (hi : 0 ≤ i ∧ i + 6 ≤ n) (hL : n < 2147483648) (h : Lp lay x y nx W n S C s σ) : zW G KL_law_ 100 Q 639 (zLL x y W i v5 v6) [] lay (tC x s C) nx (7 + c.1, 473 + c.2) := by
  obtain ⟨kk, u, v', P', h012, hv, hPv, hC, hR⟩ := p_follows (G := G) (nx := nx) (a := S (i + 1)) (c := S (i + 2)) h.wd h.re (hz _) (hz _)
  have hh := h_follows h.wd.T h.wd.d h.wl h.wx h012 hC
  refine zW.mono (b' := (2 + c.1, 12 + c.2)) ⟨Nat.add_le_add_right (by decide) _, Nat.add_le_add_right (by decide) _⟩ ?_
  refine z_al1 eL_law__639 h.wd.xne ?_
  refine z_arg (v := S (i + 1)) eL_law__640 eL_law__641 eL_law__643 eL_law__644 eL_law__645 h.sc hL ⟨by omega, by omega⟩ h.st ?_
  refine z_arg (v := S (i + 2)) eL_law__646 eL_law__647 eL_law__649 eL_law__650 eL_law__651 h.sc hL ⟨by omega, by omega⟩ h.st ?_
  refine z_al3 eL_law__652 (by have := h.wx; have := h.wd.R.1; omega) ?_
  refine z_hst (av := [zP (x + 0), zI (S (i + 1)), zI (S (i + 2)), zP W]) (st := []) eL_law__653 vL_187 hh (Nat.le_of_ble_eq_true rfl) rfl (Nat.le_of_ble_eq_true rfl) h (fun l m s' C' h2 hw => ?_)
  refine z_is5 eL_law__656 (Nat.ne_of_beq_eq_false rfl) ?_
  refine z_al2 eL_law__658 h2.wd.yne ?_
  refine z_arg (v := S (i + 1)) eL_law__659 eL_law__660 eL_law__662 eL_law__663 eL_law__664 h2.sc hL ⟨by omega, by omega⟩ h2.st ?_
  refine z_arg (v := S (i + 2)) eL_law__665 eL_law__666 eL_law__668 eL_law__669 eL_law__670 h2.sc hL ⟨by omega, by omega⟩ h2.st ?_
  refine z_rst (av := [zI (S (i + 1)), zI (S (i + 2))]) (st := []) eL_law__671 vL_189 hR (Nat.le_of_ble_eq_true rfl) rfl (Nat.le_of_ble_eq_true rfl) h2 (fun C3 τ hk h3 hW => ?_)
  exact z_tail hg h3 hk h012 (fun z => by rw [hW, hw z, hv z]) eL_law__674 eL_law__676 eL_law__677 eL_law__680 eL_law__682 rfl eL_law__687 eL_law__689 rfl eL_law__692 eL_law__693 eL_law__694 eL_law__695 eL_law__697 eL_law__698 eL_law__699 rfl eL_law__704 rfl
theorem l_8 (hg : zGo G Q x y W n i S c) (hz : ∀ j, zin (S j)) (hi : 0 ≤ i ∧ i + 6 ≤ n) (hL : n < 2147483648) (h : Lp lay x y nx W n S C s σ) : zW G KL_law_ 100 Q 707 (zLL x y W i v5 v6) [] lay (tC x s C) nx (7 + c.1, 473 + c.2) := by
  obtain ⟨kk, u, v', P', h012, hv, hPv, hC, hR⟩ := p_exposed (G := G) (nx := nx) (a := S (i + 1)) h.wd h.re (hz _)
  have hh := h_exposed h.wd.T h.wd.d h.wl h.wx h012 hC
  refine zW.mono (b' := (1 + c.1, 6 + c.2)) ⟨Nat.add_le_add_right (by decide) _, Nat.add_le_add_right (by decide) _⟩ ?_
  refine z_al1 eL_law__707 h.wd.xne ?_
  refine z_arg (v := S (i + 1)) eL_law__708 eL_law__709 eL_law__711 eL_law__712 eL_law__713 h.sc hL ⟨by omega, by omega⟩ h.st ?_
  refine z_al3 eL_law__714 (by have := h.wx; have := h.wd.R.1; omega) ?_
  refine z_hst (av := [zP (x + 0), zI (S (i + 1)), zP W]) (st := []) eL_law__715 vL_190 hh (Nat.le_of_ble_eq_true rfl) rfl (Nat.le_of_ble_eq_true rfl) h (fun l m s' C' h2 hw => ?_)
  refine z_is5 eL_law__718 (Nat.ne_of_beq_eq_false rfl) ?_
  refine z_al2 eL_law__720 h2.wd.yne ?_
  refine z_arg (v := S (i + 1)) eL_law__721 eL_law__722 eL_law__724 eL_law__725 eL_law__726 h2.sc hL ⟨by omega, by omega⟩ h2.st ?_
  refine z_rst (av := [zI (S (i + 1))]) (st := []) eL_law__727 vL_193 hR (Nat.le_of_ble_eq_true rfl) rfl (Nat.le_of_ble_eq_true rfl) h2 (fun C3 τ hk h3 hW => ?_)
  exact z_tail hg h3 hk h012 (fun z => by rw [hW, hw z, hv z]) eL_law__730 eL_law__732 eL_law__733 eL_law__736 eL_law__738 rfl eL_law__743 eL_law__745 rfl eL_law__748 eL_law__749 eL_law__750 eL_law__751 eL_law__753 eL_law__754 eL_law__755 rfl eL_law__760 rfl
theorem l_9 (hg : zGo G Q x y W n i S c) (hz : ∀ j, zin (S j)) (hi : 0 ≤ i ∧ i + 6 ≤ n) (hL : n < 2147483648) (h : Lp lay x y nx W n S C s σ) : zW G KL_law_ 100 Q 763 (zLL x y W i v5 v6) [] lay (tC x s C) nx (7 + c.1, 473 + c.2) := by
  obtain ⟨kk, u, v', P', h012, hv, hPv, hC, hR⟩ := p_paper (G := G) (nx := nx) (a := S (i + 1)) h.wd h.re (hz _)
  have hh := h_paper h.wd.T h.wd.d h.wl h.wx h012 hC
  refine zW.mono (b' := (1 + c.1, 6 + c.2)) ⟨Nat.add_le_add_right (by decide) _, Nat.add_le_add_right (by decide) _⟩ ?_
  refine z_al1 eL_law__763 h.wd.xne ?_
  refine z_arg (v := S (i + 1)) eL_law__764 eL_law__765 eL_law__767 eL_law__768 eL_law__769 h.sc hL ⟨by omega, by omega⟩ h.st ?_
  refine z_al3 eL_law__770 (by have := h.wx; have := h.wd.R.1; omega) ?_
  refine z_hst (av := [zP (x + 0), zI (S (i + 1)), zP W]) (st := []) eL_law__771 vL_194 hh (Nat.le_of_ble_eq_true rfl) rfl (Nat.le_of_ble_eq_true rfl) h (fun l m s' C' h2 hw => ?_)
  refine z_is5 eL_law__774 (Nat.ne_of_beq_eq_false rfl) ?_
  refine z_al2 eL_law__776 h2.wd.yne ?_
  refine z_arg (v := S (i + 1)) eL_law__777 eL_law__778 eL_law__780 eL_law__781 eL_law__782 h2.sc hL ⟨by omega, by omega⟩ h2.st ?_
  refine z_rst (av := [zI (S (i + 1))]) (st := []) eL_law__783 vL_196 hR (Nat.le_of_ble_eq_true rfl) rfl (Nat.le_of_ble_eq_true rfl) h2 (fun C3 τ hk h3 hW => ?_)
  exact z_tail hg h3 hk h012 (fun z => by rw [hW, hw z, hv z]) eL_law__786 eL_law__788 eL_law__789 eL_law__792 eL_law__794 rfl eL_law__799 eL_law__801 rfl eL_law__804 eL_law__805 eL_law__806 eL_law__807 eL_law__809 eL_law__810 eL_law__811 rfl eL_law__816 rfl
theorem l_10 (hg : zGo G Q x y W n i S c) (hz : ∀ j, zin (S j)) (hi : 0 ≤ i ∧ i + 6 ≤ n) (hL : n < 2147483648) (h : Lp lay x y nx W n S C s σ) : zW G KL_law_ 100 Q 819 (zLL x y W i v5 v6) [] lay (tC x s C) nx (7 + c.1, 473 + c.2) := by
  obtain ⟨kk, u, v', P', h012, hv, hPv, hC, hR⟩ := p_felt (G := G) (nx := nx) (p := S (i + 1)) (a := S (i + 2)) (k := S (i + 3)) h.wd h.re (hz _) (hz _) (hz _)
  have hh := h_felt h.wd.T h.wd.d h.wl h.wx h012 hC
  refine zW.mono (b' := (3 + c.1, 18 + c.2)) ⟨Nat.add_le_add_right (by decide) _, Nat.add_le_add_right (by decide) _⟩ ?_
  refine z_al1 eL_law__819 h.wd.xne ?_
  refine z_arg (v := S (i + 1)) eL_law__820 eL_law__821 eL_law__823 eL_law__824 eL_law__825 h.sc hL ⟨by omega, by omega⟩ h.st ?_
  refine z_arg (v := S (i + 2)) eL_law__826 eL_law__827 eL_law__829 eL_law__830 eL_law__831 h.sc hL ⟨by omega, by omega⟩ h.st ?_
  refine z_arg (v := S (i + 3)) eL_law__832 eL_law__833 eL_law__835 eL_law__836 eL_law__837 h.sc hL ⟨by omega, by omega⟩ h.st ?_
  refine z_al3 eL_law__838 (by have := h.wx; have := h.wd.R.1; omega) ?_
  refine z_hst (av := [zP (x + 0), zI (S (i + 1)), zI (S (i + 2)), zI (S (i + 3)), zP W]) (st := []) eL_law__839 vL_197 hh (Nat.le_of_ble_eq_true rfl) rfl (Nat.le_of_ble_eq_true rfl) h (fun l m s' C' h2 hw => ?_)
  refine z_is5 eL_law__842 (Nat.ne_of_beq_eq_false rfl) ?_
  refine z_al2 eL_law__844 h2.wd.yne ?_
  refine z_arg (v := S (i + 1)) eL_law__845 eL_law__846 eL_law__848 eL_law__849 eL_law__850 h2.sc hL ⟨by omega, by omega⟩ h2.st ?_
  refine z_arg (v := S (i + 2)) eL_law__851 eL_law__852 eL_law__854 eL_law__855 eL_law__856 h2.sc hL ⟨by omega, by omega⟩ h2.st ?_
  refine z_arg (v := S (i + 3)) eL_law__857 eL_law__858 eL_law__860 eL_law__861 eL_law__862 h2.sc hL ⟨by omega, by omega⟩ h2.st ?_
  refine z_rst (av := [zI (S (i + 1)), zI (S (i + 2)), zI (S (i + 3))]) (st := []) eL_law__863 vL_200 hR (Nat.le_of_ble_eq_true rfl) rfl (Nat.le_of_ble_eq_true rfl) h2 (fun C3 τ hk h3 hW => ?_)
  exact z_tail hg h3 hk h012 (fun z => by rw [hW, hw z, hv z]) eL_law__866 eL_law__868 eL_law__869 eL_law__872 eL_law__874 rfl eL_law__879 eL_law__881 rfl eL_law__884 eL_law__885 eL_law__886 eL_law__887 eL_law__889 eL_law__890 eL_law__891 rfl eL_law__896 rfl
theorem l_11 (hg : zGo G Q x y W n i S c) (hz : ∀ j, zin (S j)) (hi : 0 ≤ i ∧ i + 6 ≤ n) (hL : n < 2147483648) (h : Lp lay x y nx W n S C s σ) : zW G KL_law_ 100 Q 899 (zLL x y W i v5 v6) [] lay (tC x s C) nx (7 + c.1, 473 + c.2) := by
  obtain ⟨kk, u, v', P', h012, hv, hPv, hC, hR⟩ := p_goes (G := G) (nx := nx) (k := S (i + 1)) (a := S (i + 2)) (h := S (i + 3)) h.wd h.re (hz _) (hz _) (hz _)
  have hh := h_goes h.wd.T h.wd.d h.wl h.wx h012 hC
  refine zW.mono (b' := (3 + c.1, 18 + c.2)) ⟨Nat.add_le_add_right (by decide) _, Nat.add_le_add_right (by decide) _⟩ ?_
  refine z_al1 eL_law__899 h.wd.xne ?_
  refine z_arg (v := S (i + 1)) eL_law__900 eL_law__901 eL_law__903 eL_law__904 eL_law__905 h.sc hL ⟨by omega, by omega⟩ h.st ?_
  refine z_arg (v := S (i + 2)) eL_law__906 eL_law__907 eL_law__909 eL_law__910 eL_law__911 h.sc hL ⟨by omega, by omega⟩ h.st ?_
  refine z_arg (v := S (i + 3)) eL_law__912 eL_law__913 eL_law__915 eL_law__916 eL_law__917 h.sc hL ⟨by omega, by omega⟩ h.st ?_
  refine z_al3 eL_law__918 (by have := h.wx; have := h.wd.R.1; omega) ?_
  refine z_hst (av := [zP (x + 0), zI (S (i + 1)), zI (S (i + 2)), zI (S (i + 3)), zP W]) (st := []) eL_law__919 vL_201 hh (Nat.le_of_ble_eq_true rfl) rfl (Nat.le_of_ble_eq_true rfl) h (fun l m s' C' h2 hw => ?_)
  refine z_is5 eL_law__922 (Nat.ne_of_beq_eq_false rfl) ?_
  refine z_al2 eL_law__924 h2.wd.yne ?_
  refine z_arg (v := S (i + 1)) eL_law__925 eL_law__926 eL_law__928 eL_law__929 eL_law__930 h2.sc hL ⟨by omega, by omega⟩ h2.st ?_
  refine z_arg (v := S (i + 2)) eL_law__931 eL_law__932 eL_law__934 eL_law__935 eL_law__936 h2.sc hL ⟨by omega, by omega⟩ h2.st ?_
  refine z_arg (v := S (i + 3)) eL_law__937 eL_law__938 eL_law__940 eL_law__941 eL_law__942 h2.sc hL ⟨by omega, by omega⟩ h2.st ?_
  refine z_rst (av := [zI (S (i + 1)), zI (S (i + 2)), zI (S (i + 3))]) (st := []) eL_law__943 vL_203 hR (Nat.le_of_ble_eq_true rfl) rfl (Nat.le_of_ble_eq_true rfl) h2 (fun C3 τ hk h3 hW => ?_)
  exact z_tail hg h3 hk h012 (fun z => by rw [hW, hw z, hv z]) eL_law__946 eL_law__948 eL_law__949 eL_law__952 eL_law__954 rfl eL_law__959 eL_law__961 rfl eL_law__964 eL_law__965 eL_law__966 eL_law__967 eL_law__969 eL_law__970 eL_law__971 rfl eL_law__976 rfl
theorem l_12 (hg : zGo G Q x y W n i S c) (hz : ∀ j, zin (S j)) (hi : 0 ≤ i ∧ i + 6 ≤ n) (hL : n < 2147483648) (h : Lp lay x y nx W n S C s σ) : zW G KL_law_ 100 Q 979 (zLL x y W i v5 v6) [] lay (tC x s C) nx (7 + c.1, 473 + c.2) := by
  obtain ⟨kk, u, v', P', h012, hv, hPv, hC, hR⟩ := p_hours (G := G) (nx := nx) (n := S (i + 1)) h.wd h.re (hz _)
  have hh := h_hours h.wd.T h.wd.d h.wl h.wx h012 hC
  refine zW.mono (b' := (1 + c.1, 6 + c.2)) ⟨Nat.add_le_add_right (by decide) _, Nat.add_le_add_right (by decide) _⟩ ?_
  refine z_al1 eL_law__979 h.wd.xne ?_
  refine z_arg (v := S (i + 1)) eL_law__980 eL_law__981 eL_law__983 eL_law__984 eL_law__985 h.sc hL ⟨by omega, by omega⟩ h.st ?_
  refine z_al3 eL_law__986 (by have := h.wx; have := h.wd.R.1; omega) ?_
  refine z_hst (av := [zP (x + 0), zI (S (i + 1)), zP W]) (st := []) eL_law__987 vL_204 hh (Nat.le_of_ble_eq_true rfl) rfl (Nat.le_of_ble_eq_true rfl) h (fun l m s' C' h2 hw => ?_)
  refine z_is5 eL_law__990 (Nat.ne_of_beq_eq_false rfl) ?_
  refine z_al2 eL_law__992 h2.wd.yne ?_
  refine z_arg (v := S (i + 1)) eL_law__993 eL_law__994 eL_law__996 eL_law__997 eL_law__998 h2.sc hL ⟨by omega, by omega⟩ h2.st ?_
  refine z_rst (av := [zI (S (i + 1))]) (st := []) eL_law__999 vL_206 hR (Nat.le_of_ble_eq_true rfl) rfl (Nat.le_of_ble_eq_true rfl) h2 (fun C3 τ hk h3 hW => ?_)
  exact z_tail hg h3 hk h012 (fun z => by rw [hW, hw z, hv z]) eL_law__1002 eL_law__1004 eL_law__1005 eL_law__1008 eL_law__1010 rfl eL_law__1015 eL_law__1017 rfl eL_law__1020 eL_law__1021 eL_law__1022 eL_law__1023 eL_law__1025 eL_law__1026 eL_law__1027 rfl eL_law__1032 rfl
theorem l_13 (hg : zGo G Q x y W n i S c) (hz : ∀ j, zin (S j)) (hi : 0 ≤ i ∧ i + 6 ≤ n) (hL : n < 2147483648) (h : Lp lay x y nx W n S C s σ) : zW G KL_law_ 100 Q 1035 (zLL x y W i v5 v6) [] lay (tC x s C) nx (7 + c.1, 473 + c.2) := by
  obtain ⟨kk, u, v', P', h012, hv, hPv, hC, hR⟩ := p_table (G := G) (nx := nx) (k := S (i + 1)) (h := S (i + 2)) h.wd h.re (hz _) (hz _)
  have hh := h_table h.wd.T h.wd.d h.wl h.wx h012 hC
  refine zW.mono (b' := (3 + c.1, 18 + c.2)) ⟨Nat.add_le_add_right (by decide) _, Nat.add_le_add_right (by decide) _⟩ ?_
  refine z_al1 eL_law__1035 h.wd.xne ?_
  refine z_arg (v := S (i + 1)) eL_law__1036 eL_law__1037 eL_law__1039 eL_law__1040 eL_law__1041 h.sc hL ⟨by omega, by omega⟩ h.st ?_
  refine z_arg (v := S (i + 2)) eL_law__1042 eL_law__1043 eL_law__1045 eL_law__1046 eL_law__1047 h.sc hL ⟨by omega, by omega⟩ h.st ?_
  refine z_al3 eL_law__1048 (by have := h.wx; have := h.wd.R.1; omega) ?_
  refine z_hst (av := [zP (x + 0), zI (S (i + 1)), zI (S (i + 2)), zP W]) (st := []) eL_law__1049 vL_207 hh (Nat.le_of_ble_eq_true rfl) rfl (Nat.le_of_ble_eq_true rfl) h (fun l m s' C' h2 hw => ?_)
  refine z_is5 eL_law__1052 (Nat.ne_of_beq_eq_false rfl) ?_
  refine z_al2 eL_law__1054 h2.wd.yne ?_
  refine z_arg (v := S (i + 1)) eL_law__1055 eL_law__1056 eL_law__1058 eL_law__1059 eL_law__1060 h2.sc hL ⟨by omega, by omega⟩ h2.st ?_
  refine z_arg (v := S (i + 2)) eL_law__1061 eL_law__1062 eL_law__1064 eL_law__1065 eL_law__1066 h2.sc hL ⟨by omega, by omega⟩ h2.st ?_
  refine z_rst (av := [zI (S (i + 1)), zI (S (i + 2))]) (st := []) eL_law__1067 vL_209 hR (Nat.le_of_ble_eq_true rfl) rfl (Nat.le_of_ble_eq_true rfl) h2 (fun C3 τ hk h3 hW => ?_)
  exact z_tail hg h3 hk h012 (fun z => by rw [hW, hw z, hv z]) eL_law__1070 eL_law__1072 eL_law__1073 eL_law__1076 eL_law__1078 rfl eL_law__1083 eL_law__1085 rfl eL_law__1088 eL_law__1089 eL_law__1090 eL_law__1091 eL_law__1093 eL_law__1094 eL_law__1095 rfl eL_law__1100 rfl
theorem l_14 (hg : zGo G Q x y W n i S c) (hz : ∀ j, zin (S j)) (hi : 0 ≤ i ∧ i + 6 ≤ n) (hL : n < 2147483648) (h : Lp lay x y nx W n S C s σ) : zW G KL_law_ 100 Q 1103 (zLL x y W i v5 v6) [] lay (tC x s C) nx (7 + c.1, 473 + c.2) := by
  obtain ⟨kk, u, v', P', h012, hv, hPv, hC, hR⟩ := p_clear (G := G) (nx := nx) (h := S (i + 1)) h.wd h.re (hz _)
  have hh := h_clear h.wd.T h.wd.d h.wl h.wx h012 hC
  refine zW.mono (b' := (2 + c.1, 12 + c.2)) ⟨Nat.add_le_add_right (by decide) _, Nat.add_le_add_right (by decide) _⟩ ?_
  refine z_al1 eL_law__1103 h.wd.xne ?_
  refine z_arg (v := S (i + 1)) eL_law__1104 eL_law__1105 eL_law__1107 eL_law__1108 eL_law__1109 h.sc hL ⟨by omega, by omega⟩ h.st ?_
  refine z_al3 eL_law__1110 (by have := h.wx; have := h.wd.R.1; omega) ?_
  refine z_hst (av := [zP (x + 0), zI (S (i + 1)), zP W]) (st := []) eL_law__1111 vL_210 hh (Nat.le_of_ble_eq_true rfl) rfl (Nat.le_of_ble_eq_true rfl) h (fun l m s' C' h2 hw => ?_)
  refine z_is5 eL_law__1114 (Nat.ne_of_beq_eq_false rfl) ?_
  refine z_al2 eL_law__1116 h2.wd.yne ?_
  refine z_arg (v := S (i + 1)) eL_law__1117 eL_law__1118 eL_law__1120 eL_law__1121 eL_law__1122 h2.sc hL ⟨by omega, by omega⟩ h2.st ?_
  refine z_rst (av := [zI (S (i + 1))]) (st := []) eL_law__1123 vL_212 hR (Nat.le_of_ble_eq_true rfl) rfl (Nat.le_of_ble_eq_true rfl) h2 (fun C3 τ hk h3 hW => ?_)
  exact z_tail hg h3 hk h012 (fun z => by rw [hW, hw z, hv z]) eL_law__1126 eL_law__1128 eL_law__1129 eL_law__1132 eL_law__1134 rfl eL_law__1139 eL_law__1141 rfl eL_law__1144 eL_law__1145 eL_law__1146 eL_law__1147 eL_law__1149 eL_law__1150 eL_law__1151 rfl eL_law__1156 rfl
theorem l_15 (hg : zGo G Q x y W n i S c) (hz : ∀ j, zin (S j)) (hi : 0 ≤ i ∧ i + 6 ≤ n) (hL : n < 2147483648) (h : Lp lay x y nx W n S C s σ) : zW G KL_law_ 100 Q 1159 (zLL x y W i v5 v6) [] lay (tC x s C) nx (7 + c.1, 473 + c.2) := by
  obtain ⟨kk, u, v', P', h012, hv, hPv, hC, hR⟩ := p_hat (G := G) (nx := nx) (p := S (i + 1)) (v := zNb (S (i + 2))) h.wd h.re (hz _) zNb_01
  have hh := h_hat h.wd.T h.wd.d h.wl h.wx h012 (fun z => (hv z).symm ▸ hPv) hC
  refine zW.mono (b' := (1 + c.1, 6 + c.2)) ⟨Nat.add_le_add_right (by decide) _, Nat.add_le_add_right (by decide) _⟩ ?_
  refine z_al1 eL_law__1159 h.wd.xne ?_
  refine z_arg (v := S (i + 1)) eL_law__1160 eL_law__1161 eL_law__1163 eL_law__1164 eL_law__1165 h.sc hL ⟨by omega, by omega⟩ h.st ?_
  refine z_arg (v := S (i + 2)) eL_law__1166 eL_law__1167 eL_law__1169 eL_law__1170 eL_law__1171 h.sc hL ⟨by omega, by omega⟩ h.st ?_
  refine z_bool eL_law__1172 eL_law__1175 eL_law__1176 eL_law__1179 rfl rfl (hz _) ?_
  refine z_al3 eL_law__1180 (by have := h.wx; have := h.wd.R.1; omega) ?_
  refine z_hst (av := [zP (x + 0), zI (S (i + 1)), zI (zNb (S (i + 2))), zP W]) (st := []) eL_law__1181 vL_213 hh (Nat.le_of_ble_eq_true rfl) rfl (Nat.le_of_ble_eq_true rfl) h (fun l m s' C' h2 hw => ?_)
  refine z_is5 eL_law__1184 (Nat.ne_of_beq_eq_false rfl) ?_
  refine z_al2 eL_law__1186 h2.wd.yne ?_
  refine z_arg (v := S (i + 1)) eL_law__1187 eL_law__1188 eL_law__1190 eL_law__1191 eL_law__1192 h2.sc hL ⟨by omega, by omega⟩ h2.st ?_
  refine z_arg (v := S (i + 2)) eL_law__1193 eL_law__1194 eL_law__1196 eL_law__1197 eL_law__1198 h2.sc hL ⟨by omega, by omega⟩ h2.st ?_
  refine z_bool eL_law__1199 eL_law__1202 eL_law__1203 eL_law__1206 rfl rfl (hz _) ?_
  refine z_rst (av := [zI (S (i + 1)), zI (zNb (S (i + 2)))]) (st := []) eL_law__1207 vL_216 hR (Nat.le_of_ble_eq_true rfl) rfl (Nat.le_of_ble_eq_true rfl) h2 (fun C3 τ hk h3 hW => ?_)
  exact z_tailB hg h3 hk h012 (fun z => by rw [hW, hw z, hv z]) hPv eL_law__1210 eL_law__1212 eL_law__1213 eL_law__1216 eL_law__1218 rfl eL_law__1223 eL_law__1225 rfl eL_law__1228 eL_law__1229 eL_law__1230 eL_law__1231 eL_law__1233 rfl eL_law__1236 eL_law__1237 rfl eL_law__1240 eL_law__1241 eL_law__1242 rfl eL_law__1247 rfl
theorem l_16 (hg : zGo G Q x y W n i S c) (hz : ∀ j, zin (S j)) (hi : 0 ≤ i ∧ i + 6 ≤ n) (hL : n < 2147483648) (h : Lp lay x y nx W n S C s σ) : zW G KL_law_ 100 Q 1250 (zLL x y W i v5 v6) [] lay (tC x s C) nx (7 + c.1, 473 + c.2) := by
  obtain ⟨kk, u, v', P', h012, hv, hPv, hC, hR⟩ := p_out (G := G) (nx := nx) (p := S (i + 1)) (v := zNb (S (i + 2))) h.wd h.re (hz _) zNb_01
  have hh := h_out h.wd.T h.wd.d h.wl h.wx h012 (fun z => (hv z).symm ▸ hPv) hC
  refine zW.mono (b' := (1 + c.1, 6 + c.2)) ⟨Nat.add_le_add_right (by decide) _, Nat.add_le_add_right (by decide) _⟩ ?_
  refine z_al1 eL_law__1250 h.wd.xne ?_
  refine z_arg (v := S (i + 1)) eL_law__1251 eL_law__1252 eL_law__1254 eL_law__1255 eL_law__1256 h.sc hL ⟨by omega, by omega⟩ h.st ?_
  refine z_arg (v := S (i + 2)) eL_law__1257 eL_law__1258 eL_law__1260 eL_law__1261 eL_law__1262 h.sc hL ⟨by omega, by omega⟩ h.st ?_
  refine z_bool eL_law__1263 eL_law__1266 eL_law__1267 eL_law__1270 rfl rfl (hz _) ?_
  refine z_al3 eL_law__1271 (by have := h.wx; have := h.wd.R.1; omega) ?_
  refine z_hst (av := [zP (x + 0), zI (S (i + 1)), zI (zNb (S (i + 2))), zP W]) (st := []) eL_law__1272 vL_217 hh (Nat.le_of_ble_eq_true rfl) rfl (Nat.le_of_ble_eq_true rfl) h (fun l m s' C' h2 hw => ?_)
  refine z_is5 eL_law__1275 (Nat.ne_of_beq_eq_false rfl) ?_
  refine z_al2 eL_law__1277 h2.wd.yne ?_
  refine z_arg (v := S (i + 1)) eL_law__1278 eL_law__1279 eL_law__1281 eL_law__1282 eL_law__1283 h2.sc hL ⟨by omega, by omega⟩ h2.st ?_
  refine z_arg (v := S (i + 2)) eL_law__1284 eL_law__1285 eL_law__1287 eL_law__1288 eL_law__1289 h2.sc hL ⟨by omega, by omega⟩ h2.st ?_
  refine z_bool eL_law__1290 eL_law__1293 eL_law__1294 eL_law__1297 rfl rfl (hz _) ?_
  refine z_rst (av := [zI (S (i + 1)), zI (zNb (S (i + 2)))]) (st := []) eL_law__1298 vL_219 hR (Nat.le_of_ble_eq_true rfl) rfl (Nat.le_of_ble_eq_true rfl) h2 (fun C3 τ hk h3 hW => ?_)
  exact z_tailB hg h3 hk h012 (fun z => by rw [hW, hw z, hv z]) hPv eL_law__1301 eL_law__1303 eL_law__1304 eL_law__1307 eL_law__1309 rfl eL_law__1314 eL_law__1316 rfl eL_law__1319 eL_law__1320 eL_law__1321 eL_law__1322 eL_law__1324 rfl eL_law__1327 eL_law__1328 rfl eL_law__1331 eL_law__1332 eL_law__1333 rfl eL_law__1338 rfl
theorem l_17 (hg : zGo G Q x y W n i S c) (hz : ∀ j, zin (S j)) (hi : 0 ≤ i ∧ i + 6 ≤ n) (hL : n < 2147483648) (h : Lp lay x y nx W n S C s σ) : zW G KL_law_ 100 Q 1341 (zLL x y W i v5 v6) [] lay (tC x s C) nx (7 + c.1, 473 + c.2) := by
  obtain ⟨kk, u, v', P', h012, hv, hPv, hC, hR⟩ := p_walk (G := G) (nx := nx) (p := S (i + 1)) (n := S (i + 2)) h.wd h.re (hz _) (hz _)
  have hh := h_walk h.wd.T h.wd.d h.wl h.wx h012 hC
  refine zW.mono (b' := (2 + c.1, 12 + c.2)) ⟨Nat.add_le_add_right (by decide) _, Nat.add_le_add_right (by decide) _⟩ ?_
  refine z_al1 eL_law__1341 h.wd.xne ?_
  refine z_arg (v := S (i + 1)) eL_law__1342 eL_law__1343 eL_law__1345 eL_law__1346 eL_law__1347 h.sc hL ⟨by omega, by omega⟩ h.st ?_
  refine z_arg (v := S (i + 2)) eL_law__1348 eL_law__1349 eL_law__1351 eL_law__1352 eL_law__1353 h.sc hL ⟨by omega, by omega⟩ h.st ?_
  refine z_al3 eL_law__1354 (by have := h.wx; have := h.wd.R.1; omega) ?_
  refine z_hst (av := [zP (x + 0), zI (S (i + 1)), zI (S (i + 2)), zP W]) (st := []) eL_law__1355 vL_220 hh (Nat.le_of_ble_eq_true rfl) rfl (Nat.le_of_ble_eq_true rfl) h (fun l m s' C' h2 hw => ?_)
  refine z_is5 eL_law__1358 (Nat.ne_of_beq_eq_false rfl) ?_
  refine z_al2 eL_law__1360 h2.wd.yne ?_
  refine z_arg (v := S (i + 1)) eL_law__1361 eL_law__1362 eL_law__1364 eL_law__1365 eL_law__1366 h2.sc hL ⟨by omega, by omega⟩ h2.st ?_
  refine z_arg (v := S (i + 2)) eL_law__1367 eL_law__1368 eL_law__1370 eL_law__1371 eL_law__1372 h2.sc hL ⟨by omega, by omega⟩ h2.st ?_
  refine z_rst (av := [zI (S (i + 1)), zI (S (i + 2))]) (st := []) eL_law__1373 vL_222 hR (Nat.le_of_ble_eq_true rfl) rfl (Nat.le_of_ble_eq_true rfl) h2 (fun C3 τ hk h3 hW => ?_)
  exact z_tail hg h3 hk h012 (fun z => by rw [hW, hw z, hv z]) eL_law__1376 eL_law__1378 eL_law__1379 eL_law__1382 eL_law__1384 rfl eL_law__1389 eL_law__1391 rfl eL_law__1394 eL_law__1395 eL_law__1396 eL_law__1397 eL_law__1399 eL_law__1400 eL_law__1401 rfl eL_law__1406 rfl
theorem l_18 (hg : zGo G Q x y W n i S c) (hz : ∀ j, zin (S j)) (hi : 0 ≤ i ∧ i + 6 ≤ n) (hL : n < 2147483648) (h : Lp lay x y nx W n S C s σ) : zW G KL_law_ 100 Q 1409 (zLL x y W i v5 v6) [] lay (tC x s C) nx (7 + c.1, 473 + c.2) := by
  obtain ⟨kk, u, v', P', h012, hv, hPv, hC, hR⟩ := p_mind (G := G) (nx := nx) (p := S (i + 1)) (k := S (i + 2)) h.wd h.re (hz _) (hz _)
  have hh := h_mind h.wd.T h.wd.d h.wl h.wx h012 (fun z => (hv z).symm ▸ hPv) hC
  refine zW.mono (b' := (3 + c.1, 18 + c.2)) ⟨Nat.add_le_add_right (by decide) _, Nat.add_le_add_right (by decide) _⟩ ?_
  refine z_al1 eL_law__1409 h.wd.xne ?_
  refine z_arg (v := S (i + 1)) eL_law__1410 eL_law__1411 eL_law__1413 eL_law__1414 eL_law__1415 h.sc hL ⟨by omega, by omega⟩ h.st ?_
  refine z_arg (v := S (i + 2)) eL_law__1416 eL_law__1417 eL_law__1419 eL_law__1420 eL_law__1421 h.sc hL ⟨by omega, by omega⟩ h.st ?_
  refine z_al3 eL_law__1422 (by have := h.wx; have := h.wd.R.1; omega) ?_
  refine z_hst (av := [zP (x + 0), zI (S (i + 1)), zI (S (i + 2)), zP W]) (st := []) eL_law__1423 vL_223 hh (Nat.le_of_ble_eq_true rfl) rfl (Nat.le_of_ble_eq_true rfl) h (fun l m s' C' h2 hw => ?_)
  refine z_is5 eL_law__1426 (Nat.ne_of_beq_eq_false rfl) ?_
  refine z_al2 eL_law__1428 h2.wd.yne ?_
  refine z_arg (v := S (i + 1)) eL_law__1429 eL_law__1430 eL_law__1432 eL_law__1433 eL_law__1434 h2.sc hL ⟨by omega, by omega⟩ h2.st ?_
  refine z_arg (v := S (i + 2)) eL_law__1435 eL_law__1436 eL_law__1438 eL_law__1439 eL_law__1440 h2.sc hL ⟨by omega, by omega⟩ h2.st ?_
  refine z_rst (av := [zI (S (i + 1)), zI (S (i + 2))]) (st := []) eL_law__1441 vL_225 hR (Nat.le_of_ble_eq_true rfl) rfl (Nat.le_of_ble_eq_true rfl) h2 (fun C3 τ hk h3 hW => ?_)
  exact z_tailB hg h3 hk h012 (fun z => by rw [hW, hw z, hv z]) hPv eL_law__1444 eL_law__1446 eL_law__1447 eL_law__1450 eL_law__1452 rfl eL_law__1457 eL_law__1459 rfl eL_law__1462 eL_law__1463 eL_law__1464 eL_law__1465 eL_law__1467 rfl eL_law__1470 eL_law__1471 rfl eL_law__1474 eL_law__1475 eL_law__1476 rfl eL_law__1481 rfl
theorem l_19 (hg : zGo G Q x y W n i S c) (hz : ∀ j, zin (S j)) (hi : 0 ≤ i ∧ i + 6 ≤ n) (hL : n < 2147483648) (h : Lp lay x y nx W n S C s σ) : zW G KL_law_ 100 Q 1484 (zLL x y W i v5 v6) [] lay (tC x s C) nx (7 + c.1, 473 + c.2) := by
  obtain ⟨kk, u, v', P', h012, hv, hPv, hC, hR⟩ := p_seat (G := G) (nx := nx) (p := S (i + 1)) (n := S (i + 2)) h.wd h.re (hz _) (hz _)
  have hh := h_seat h.wd.T h.wd.d h.wl h.wx h012 hC
  refine zW.mono (b' := (2 + c.1, 12 + c.2)) ⟨Nat.add_le_add_right (by decide) _, Nat.add_le_add_right (by decide) _⟩ ?_
  refine z_al1 eL_law__1484 h.wd.xne ?_
  refine z_arg (v := S (i + 1)) eL_law__1485 eL_law__1486 eL_law__1488 eL_law__1489 eL_law__1490 h.sc hL ⟨by omega, by omega⟩ h.st ?_
  refine z_arg (v := S (i + 2)) eL_law__1491 eL_law__1492 eL_law__1494 eL_law__1495 eL_law__1496 h.sc hL ⟨by omega, by omega⟩ h.st ?_
  refine z_al3 eL_law__1497 (by have := h.wx; have := h.wd.R.1; omega) ?_
  refine z_hst (av := [zP (x + 0), zI (S (i + 1)), zI (S (i + 2)), zP W]) (st := []) eL_law__1498 vL_226 hh (Nat.le_of_ble_eq_true rfl) rfl (Nat.le_of_ble_eq_true rfl) h (fun l m s' C' h2 hw => ?_)
  refine z_is5 eL_law__1501 (Nat.ne_of_beq_eq_false rfl) ?_
  refine z_al2 eL_law__1503 h2.wd.yne ?_
  refine z_arg (v := S (i + 1)) eL_law__1504 eL_law__1505 eL_law__1507 eL_law__1508 eL_law__1509 h2.sc hL ⟨by omega, by omega⟩ h2.st ?_
  refine z_arg (v := S (i + 2)) eL_law__1510 eL_law__1511 eL_law__1513 eL_law__1514 eL_law__1515 h2.sc hL ⟨by omega, by omega⟩ h2.st ?_
  refine z_rst (av := [zI (S (i + 1)), zI (S (i + 2))]) (st := []) eL_law__1516 vL_228 hR (Nat.le_of_ble_eq_true rfl) rfl (Nat.le_of_ble_eq_true rfl) h2 (fun C3 τ hk h3 hW => ?_)
  exact z_tail hg h3 hk h012 (fun z => by rw [hW, hw z, hv z]) eL_law__1519 eL_law__1521 eL_law__1522 eL_law__1525 eL_law__1527 rfl eL_law__1532 eL_law__1534 rfl eL_law__1537 eL_law__1538 eL_law__1539 eL_law__1540 eL_law__1542 eL_law__1543 eL_law__1544 rfl eL_law__1549 rfl
theorem l_20 (hg : zGo G Q x y W n i S c) (hz : ∀ j, zin (S j)) (hi : 0 ≤ i ∧ i + 6 ≤ n) (hL : n < 2147483648) (h : Lp lay x y nx W n S C s σ) : zW G KL_law_ 100 Q 1552 (zLL x y W i v5 v6) [] lay (tC x s C) nx (7 + c.1, 473 + c.2) := by
  obtain ⟨kk, u, v', P', h012, hv, hPv, hC, hR⟩ := p_renew (G := G) (nx := nx) (k := S (i + 1)) h.wd h.re (hz _)
  have hh := h_renew h.wd.T h.wd.d h.wl h.wx h012 hC
  refine zW.mono (b' := (2 + c.1, 12 + c.2)) ⟨Nat.add_le_add_right (by decide) _, Nat.add_le_add_right (by decide) _⟩ ?_
  refine z_al1 eL_law__1552 h.wd.xne ?_
  refine z_arg (v := S (i + 1)) eL_law__1553 eL_law__1554 eL_law__1556 eL_law__1557 eL_law__1558 h.sc hL ⟨by omega, by omega⟩ h.st ?_
  refine z_al3 eL_law__1559 (by have := h.wx; have := h.wd.R.1; omega) ?_
  refine z_hst (av := [zP (x + 0), zI (S (i + 1)), zP W]) (st := []) eL_law__1560 vL_229 hh (Nat.le_of_ble_eq_true rfl) rfl (Nat.le_of_ble_eq_true rfl) h (fun l m s' C' h2 hw => ?_)
  refine z_is5 eL_law__1563 (Nat.ne_of_beq_eq_false rfl) ?_
  refine z_al2 eL_law__1565 h2.wd.yne ?_
  refine z_arg (v := S (i + 1)) eL_law__1566 eL_law__1567 eL_law__1569 eL_law__1570 eL_law__1571 h2.sc hL ⟨by omega, by omega⟩ h2.st ?_
  refine z_rst (av := [zI (S (i + 1))]) (st := []) eL_law__1572 vL_231 hR (Nat.le_of_ble_eq_true rfl) rfl (Nat.le_of_ble_eq_true rfl) h2 (fun C3 τ hk h3 hW => ?_)
  exact z_tail hg h3 hk h012 (fun z => by rw [hW, hw z, hv z]) eL_law__1575 eL_law__1577 eL_law__1578 eL_law__1581 eL_law__1583 rfl eL_law__1588 eL_law__1590 rfl eL_law__1593 eL_law__1594 eL_law__1595 eL_law__1596 eL_law__1598 eL_law__1599 eL_law__1600 rfl eL_law__1605 rfl
theorem l_21 (hg : zGo G Q x y W n i S c) (hz : ∀ j, zin (S j)) (hi : 0 ≤ i ∧ i + 6 ≤ n) (hL : n < 2147483648) (h : Lp lay x y nx W n S C s σ) : zW G KL_law_ 100 Q 1608 (zLL x y W i v5 v6) [] lay (tC x s C) nx (7 + c.1, 473 + c.2) := by
  obtain ⟨kk, u, v', P', h012, hv, hPv, hC, hR⟩ := p_chance (G := G) (nx := nx) (a := S (i + 1)) (n := S (i + 2)) h.wd h.re (hz _) (hz _)
  have hh := h_chance h.wd.T h.wd.d h.wl h.wx h012 hC
  refine zW.mono (b' := (2 + c.1, 12 + c.2)) ⟨Nat.add_le_add_right (by decide) _, Nat.add_le_add_right (by decide) _⟩ ?_
  refine z_al1 eL_law__1608 h.wd.xne ?_
  refine z_arg (v := S (i + 1)) eL_law__1609 eL_law__1610 eL_law__1612 eL_law__1613 eL_law__1614 h.sc hL ⟨by omega, by omega⟩ h.st ?_
  refine z_arg (v := S (i + 2)) eL_law__1615 eL_law__1616 eL_law__1618 eL_law__1619 eL_law__1620 h.sc hL ⟨by omega, by omega⟩ h.st ?_
  refine z_al3 eL_law__1621 (by have := h.wx; have := h.wd.R.1; omega) ?_
  refine z_hst (av := [zP (x + 0), zI (S (i + 1)), zI (S (i + 2)), zP W]) (st := []) eL_law__1622 vL_232 hh (Nat.le_of_ble_eq_true rfl) rfl (Nat.le_of_ble_eq_true rfl) h (fun l m s' C' h2 hw => ?_)
  refine z_is5 eL_law__1625 (Nat.ne_of_beq_eq_false rfl) ?_
  refine z_al2 eL_law__1627 h2.wd.yne ?_
  refine z_arg (v := S (i + 1)) eL_law__1628 eL_law__1629 eL_law__1631 eL_law__1632 eL_law__1633 h2.sc hL ⟨by omega, by omega⟩ h2.st ?_
  refine z_arg (v := S (i + 2)) eL_law__1634 eL_law__1635 eL_law__1637 eL_law__1638 eL_law__1639 h2.sc hL ⟨by omega, by omega⟩ h2.st ?_
  refine z_rst (av := [zI (S (i + 1)), zI (S (i + 2))]) (st := []) eL_law__1640 vL_234 hR (Nat.le_of_ble_eq_true rfl) rfl (Nat.le_of_ble_eq_true rfl) h2 (fun C3 τ hk h3 hW => ?_)
  exact z_tail hg h3 hk h012 (fun z => by rw [hW, hw z, hv z]) eL_law__1643 eL_law__1645 eL_law__1646 eL_law__1649 eL_law__1651 rfl eL_law__1656 eL_law__1658 rfl eL_law__1661 eL_law__1662 eL_law__1663 eL_law__1664 eL_law__1666 eL_law__1667 eL_law__1668 rfl eL_law__1673 rfl
theorem l_22 (hg : zGo G Q x y W n i S c) (hz : ∀ j, zin (S j)) (hi : 0 ≤ i ∧ i + 6 ≤ n) (hL : n < 2147483648) (h : Lp lay x y nx W n S C s σ) : zW G KL_law_ 100 Q 1676 (zLL x y W i v5 v6) [] lay (tC x s C) nx (7 + c.1, 473 + c.2) := by
  obtain ⟨kk, u, v', P', h012, hv, hPv, hC, hR⟩ := p_carries (G := G) (nx := nx) (k := S (i + 1)) (n := S (i + 2)) h.wd h.re (hz _) (hz _)
  have hh := h_carries h.wd.T h.wd.d h.wl h.wx h012 hC
  refine zW.mono (b' := (2 + c.1, 12 + c.2)) ⟨Nat.add_le_add_right (by decide) _, Nat.add_le_add_right (by decide) _⟩ ?_
  refine z_al1 eL_law__1676 h.wd.xne ?_
  refine z_arg (v := S (i + 1)) eL_law__1677 eL_law__1678 eL_law__1680 eL_law__1681 eL_law__1682 h.sc hL ⟨by omega, by omega⟩ h.st ?_
  refine z_arg (v := S (i + 2)) eL_law__1683 eL_law__1684 eL_law__1686 eL_law__1687 eL_law__1688 h.sc hL ⟨by omega, by omega⟩ h.st ?_
  refine z_al3 eL_law__1689 (by have := h.wx; have := h.wd.R.1; omega) ?_
  refine z_hst (av := [zP (x + 0), zI (S (i + 1)), zI (S (i + 2)), zP W]) (st := []) eL_law__1690 vL_235 hh (Nat.le_of_ble_eq_true rfl) rfl (Nat.le_of_ble_eq_true rfl) h (fun l m s' C' h2 hw => ?_)
  refine z_is5 eL_law__1693 (Nat.ne_of_beq_eq_false rfl) ?_
  refine z_al2 eL_law__1695 h2.wd.yne ?_
  refine z_arg (v := S (i + 1)) eL_law__1696 eL_law__1697 eL_law__1699 eL_law__1700 eL_law__1701 h2.sc hL ⟨by omega, by omega⟩ h2.st ?_
  refine z_arg (v := S (i + 2)) eL_law__1702 eL_law__1703 eL_law__1705 eL_law__1706 eL_law__1707 h2.sc hL ⟨by omega, by omega⟩ h2.st ?_
  refine z_rst (av := [zI (S (i + 1)), zI (S (i + 2))]) (st := []) eL_law__1708 vL_237 hR (Nat.le_of_ble_eq_true rfl) rfl (Nat.le_of_ble_eq_true rfl) h2 (fun C3 τ hk h3 hW => ?_)
  exact z_tail hg h3 hk h012 (fun z => by rw [hW, hw z, hv z]) eL_law__1711 eL_law__1713 eL_law__1714 eL_law__1717 eL_law__1719 rfl eL_law__1724 eL_law__1726 rfl eL_law__1729 eL_law__1730 eL_law__1731 eL_law__1732 eL_law__1734 eL_law__1735 eL_law__1736 rfl eL_law__1741 rfl
theorem l_23 (hg : zGo G Q x y W n i S c) (hz : ∀ j, zin (S j)) (hi : 0 ≤ i ∧ i + 6 ≤ n) (hL : n < 2147483648) (h : Lp lay x y nx W n S C s σ) : zW G KL_law_ 100 Q 1744 (zLL x y W i v5 v6) [] lay (tC x s C) nx (7 + c.1, 473 + c.2) := by
  obtain ⟨kk, u, v', P', h012, hv, hPv, hC, hR⟩ := p_soonest (G := G) (nx := nx) (k := S (i + 1)) (n := S (i + 2)) h.wd h.re (hz _) (hz _)
  have hh := h_soonest h.wd.T h.wd.d h.wl h.wx h012 hC
  refine zW.mono (b' := (2 + c.1, 12 + c.2)) ⟨Nat.add_le_add_right (by decide) _, Nat.add_le_add_right (by decide) _⟩ ?_
  refine z_al1 eL_law__1744 h.wd.xne ?_
  refine z_arg (v := S (i + 1)) eL_law__1745 eL_law__1746 eL_law__1748 eL_law__1749 eL_law__1750 h.sc hL ⟨by omega, by omega⟩ h.st ?_
  refine z_arg (v := S (i + 2)) eL_law__1751 eL_law__1752 eL_law__1754 eL_law__1755 eL_law__1756 h.sc hL ⟨by omega, by omega⟩ h.st ?_
  refine z_al3 eL_law__1757 (by have := h.wx; have := h.wd.R.1; omega) ?_
  refine z_hst (av := [zP (x + 0), zI (S (i + 1)), zI (S (i + 2)), zP W]) (st := []) eL_law__1758 vL_238 hh (Nat.le_of_ble_eq_true rfl) rfl (Nat.le_of_ble_eq_true rfl) h (fun l m s' C' h2 hw => ?_)
  refine z_is5 eL_law__1761 (Nat.ne_of_beq_eq_false rfl) ?_
  refine z_al2 eL_law__1763 h2.wd.yne ?_
  refine z_arg (v := S (i + 1)) eL_law__1764 eL_law__1765 eL_law__1767 eL_law__1768 eL_law__1769 h2.sc hL ⟨by omega, by omega⟩ h2.st ?_
  refine z_arg (v := S (i + 2)) eL_law__1770 eL_law__1771 eL_law__1773 eL_law__1774 eL_law__1775 h2.sc hL ⟨by omega, by omega⟩ h2.st ?_
  refine z_rst (av := [zI (S (i + 1)), zI (S (i + 2))]) (st := []) eL_law__1776 vL_240 hR (Nat.le_of_ble_eq_true rfl) rfl (Nat.le_of_ble_eq_true rfl) h2 (fun C3 τ hk h3 hW => ?_)
  exact z_tail hg h3 hk h012 (fun z => by rw [hW, hw z, hv z]) eL_law__1779 eL_law__1781 eL_law__1782 eL_law__1785 eL_law__1787 rfl eL_law__1792 eL_law__1794 rfl eL_law__1797 eL_law__1798 eL_law__1799 eL_law__1800 eL_law__1802 eL_law__1803 eL_law__1804 rfl eL_law__1809 rfl
theorem l_24 (hg : zGo G Q x y W n i S c) (hz : ∀ j, zin (S j)) (hi : 0 ≤ i ∧ i + 6 ≤ n) (hL : n < 2147483648) (h : Lp lay x y nx W n S C s σ) : zW G KL_law_ 100 Q 1812 (zLL x y W i v5 v6) [] lay (tC x s C) nx (7 + c.1, 473 + c.2) := by
  obtain ⟨kk, u, v', P', h012, hv, hPv, hC, hR⟩ := p_when (G := G) (nx := nx) (k := S (i + 1)) h.wd h.re (hz _)
  have hh := h_when h.wd.T h.wd.d h.wl h.wx h012 hC
  refine zW.mono (b' := (1 + c.1, 6 + c.2)) ⟨Nat.add_le_add_right (by decide) _, Nat.add_le_add_right (by decide) _⟩ ?_
  refine z_al1 eL_law__1812 h.wd.xne ?_
  refine z_arg (v := S (i + 1)) eL_law__1813 eL_law__1814 eL_law__1816 eL_law__1817 eL_law__1818 h.sc hL ⟨by omega, by omega⟩ h.st ?_
  refine z_al3 eL_law__1819 (by have := h.wx; have := h.wd.R.1; omega) ?_
  refine z_hst (av := [zP (x + 0), zI (S (i + 1)), zP W]) (st := []) eL_law__1820 vL_241 hh (Nat.le_of_ble_eq_true rfl) rfl (Nat.le_of_ble_eq_true rfl) h (fun l m s' C' h2 hw => ?_)
  refine z_is5 eL_law__1823 (Nat.ne_of_beq_eq_false rfl) ?_
  refine z_al2 eL_law__1825 h2.wd.yne ?_
  refine z_arg (v := S (i + 1)) eL_law__1826 eL_law__1827 eL_law__1829 eL_law__1830 eL_law__1831 h2.sc hL ⟨by omega, by omega⟩ h2.st ?_
  refine z_rst (av := [zI (S (i + 1))]) (st := []) eL_law__1832 vL_243 hR (Nat.le_of_ble_eq_true rfl) rfl (Nat.le_of_ble_eq_true rfl) h2 (fun C3 τ hk h3 hW => ?_)
  exact z_tail hg h3 hk h012 (fun z => by rw [hW, hw z, hv z]) eL_law__1835 eL_law__1837 eL_law__1838 eL_law__1841 eL_law__1843 rfl eL_law__1848 eL_law__1850 rfl eL_law__1853 eL_law__1854 eL_law__1855 eL_law__1856 eL_law__1858 eL_law__1859 eL_law__1860 rfl eL_law__1865 rfl
theorem l_25 (hg : zGo G Q x y W n i S c) (hz : ∀ j, zin (S j)) (hi : 0 ≤ i ∧ i + 6 ≤ n) (hL : n < 2147483648) (h : Lp lay x y nx W n S C s σ) : zW G KL_law_ 100 Q 1868 (zLL x y W i v5 v6) [] lay (tC x s C) nx (7 + c.1, 473 + c.2) := by
  obtain ⟨kk, u, v', P', h012, hv, hPv, hC, hR⟩ := p_worst (G := G) (nx := nx)  h.wd h.re 
  have hk0 : kk = 0 := hPv
  subst hk0
  have hu : u = v' := hv rfl
  subst hu
  refine zW.mono (b' := (0 + c.1, 0 + c.2)) ⟨Nat.add_le_add_right (by decide) _, Nat.add_le_add_right (by decide) _⟩ ?_
  refine z_al1 eL_law__1868 h.wd.xne ?_
  refine z_dst (av := []) (st := []) eL_law__1869 vL_244 hC (Nat.le_of_ble_eq_true rfl) rfl (Nat.le_of_ble_eq_true rfl) h (fun l m s' C' h2 => ?_)
  refine z_al2 eL_law__1872 h2.wd.yne ?_
  refine z_rst (av := []) (st := [zI u]) eL_law__1873 vL_247 hR (Nat.le_of_ble_eq_true rfl) rfl (Nat.le_of_ble_eq_true rfl) h2 (fun C3 τ hk h3 hW => ?_)
  exact z_icmp_eq_rf eL_law__1876 rfl (hg _ _ _ _ _ _ _ h3)
theorem l_26 (hg : zGo G Q x y W n i S c) (hz : ∀ j, zin (S j)) (hi : 0 ≤ i ∧ i + 6 ≤ n) (hL : n < 2147483648) (h : Lp lay x y nx W n S C s σ) : zW G KL_law_ 100 Q 1881 (zLL x y W i v5 v6) [] lay (tC x s C) nx (7 + c.1, 473 + c.2) := by
  obtain ⟨kk, u, v', P', h012, hv, hPv, hC, hR⟩ := p_best (G := G) (nx := nx) (n := S (i + 1)) h.wd h.re (hz _)
  have hh := h_best h.wd.T h.wd.d h.wl h.wx h012 hC
  refine zW.mono (b' := (1 + c.1, 6 + c.2)) ⟨Nat.add_le_add_right (by decide) _, Nat.add_le_add_right (by decide) _⟩ ?_
  refine z_al1 eL_law__1881 h.wd.xne ?_
  refine z_arg (v := S (i + 1)) eL_law__1882 eL_law__1883 eL_law__1885 eL_law__1886 eL_law__1887 h.sc hL ⟨by omega, by omega⟩ h.st ?_
  refine z_al3 eL_law__1888 (by have := h.wx; have := h.wd.R.1; omega) ?_
  refine z_hst (av := [zP (x + 0), zI (S (i + 1)), zP W]) (st := []) eL_law__1889 vL_248 hh (Nat.le_of_ble_eq_true rfl) rfl (Nat.le_of_ble_eq_true rfl) h (fun l m s' C' h2 hw => ?_)
  refine z_is5 eL_law__1892 (Nat.ne_of_beq_eq_false rfl) ?_
  refine z_al2 eL_law__1894 h2.wd.yne ?_
  refine z_arg (v := S (i + 1)) eL_law__1895 eL_law__1896 eL_law__1898 eL_law__1899 eL_law__1900 h2.sc hL ⟨by omega, by omega⟩ h2.st ?_
  refine z_rst (av := [zI (S (i + 1))]) (st := []) eL_law__1901 vL_250 hR (Nat.le_of_ble_eq_true rfl) rfl (Nat.le_of_ble_eq_true rfl) h2 (fun C3 τ hk h3 hW => ?_)
  exact z_tail hg h3 hk h012 (fun z => by rw [hW, hw z, hv z]) eL_law__1904 eL_law__1906 eL_law__1907 eL_law__1910 eL_law__1912 rfl eL_law__1917 eL_law__1919 rfl eL_law__1922 eL_law__1923 eL_law__1924 eL_law__1925 eL_law__1927 eL_law__1928 eL_law__1929 rfl eL_law__1934 rfl
theorem l_27 (hg : zGo G Q x y W n i S c) (hz : ∀ j, zin (S j)) (hi : 0 ≤ i ∧ i + 6 ≤ n) (hL : n < 2147483648) (h : Lp lay x y nx W n S C s σ) : zW G KL_law_ 100 Q 1937 (zLL x y W i v5 v6) [] lay (tC x s C) nx (7 + c.1, 473 + c.2) := by
  obtain ⟨kk, u, v', P', h012, hv, hPv, hC, hR⟩ := p_shower (G := G) (nx := nx) (h := S (i + 1)) (w := zNb (S (i + 2))) h.wd h.re (hz _) zNb_01
  have hh := h_shower h.wd.T h.wd.d h.wl h.wx h012 hC
  refine zW.mono (b' := (1 + c.1, 6 + c.2)) ⟨Nat.add_le_add_right (by decide) _, Nat.add_le_add_right (by decide) _⟩ ?_
  refine z_al1 eL_law__1937 h.wd.xne ?_
  refine z_arg (v := S (i + 1)) eL_law__1938 eL_law__1939 eL_law__1941 eL_law__1942 eL_law__1943 h.sc hL ⟨by omega, by omega⟩ h.st ?_
  refine z_arg (v := S (i + 2)) eL_law__1944 eL_law__1945 eL_law__1947 eL_law__1948 eL_law__1949 h.sc hL ⟨by omega, by omega⟩ h.st ?_
  refine z_bool eL_law__1950 eL_law__1953 eL_law__1954 eL_law__1957 rfl rfl (hz _) ?_
  refine z_al3 eL_law__1958 (by have := h.wx; have := h.wd.R.1; omega) ?_
  refine z_hst (av := [zP (x + 0), zI (S (i + 1)), zI (zNb (S (i + 2))), zP W]) (st := []) eL_law__1959 vL_251 hh (Nat.le_of_ble_eq_true rfl) rfl (Nat.le_of_ble_eq_true rfl) h (fun l m s' C' h2 hw => ?_)
  refine z_is5 eL_law__1962 (Nat.ne_of_beq_eq_false rfl) ?_
  refine z_al2 eL_law__1964 h2.wd.yne ?_
  refine z_arg (v := S (i + 1)) eL_law__1965 eL_law__1966 eL_law__1968 eL_law__1969 eL_law__1970 h2.sc hL ⟨by omega, by omega⟩ h2.st ?_
  refine z_arg (v := S (i + 2)) eL_law__1971 eL_law__1972 eL_law__1974 eL_law__1975 eL_law__1976 h2.sc hL ⟨by omega, by omega⟩ h2.st ?_
  refine z_bool eL_law__1977 eL_law__1980 eL_law__1981 eL_law__1984 rfl rfl (hz _) ?_
  refine z_rst (av := [zI (S (i + 1)), zI (zNb (S (i + 2)))]) (st := []) eL_law__1985 vL_253 hR (Nat.le_of_ble_eq_true rfl) rfl (Nat.le_of_ble_eq_true rfl) h2 (fun C3 τ hk h3 hW => ?_)
  exact z_tail hg h3 hk h012 (fun z => by rw [hW, hw z, hv z]) eL_law__1988 eL_law__1990 eL_law__1991 eL_law__1994 eL_law__1996 rfl eL_law__2001 eL_law__2003 rfl eL_law__2006 eL_law__2007 eL_law__2008 eL_law__2009 eL_law__2011 eL_law__2012 eL_law__2013 rfl eL_law__2018 rfl
theorem l_28 (hg : zGo G Q x y W n i S c) (hz : ∀ j, zin (S j)) (hi : 0 ≤ i ∧ i + 6 ≤ n) (hL : n < 2147483648) (h : Lp lay x y nx W n S C s σ) : zW G KL_law_ 100 Q 2021 (zLL x y W i v5 v6) [] lay (tC x s C) nx (7 + c.1, 473 + c.2) := by
  obtain ⟨kk, u, v', P', h012, hv, hPv, hC, hR⟩ := p_haste (G := G) (nx := nx) (k := S (i + 1)) h.wd h.re (hz _)
  have hk0 : kk = 0 := hPv
  subst hk0
  have hu : u = v' := hv rfl
  subst hu
  refine zW.mono (b' := (0 + c.1, 0 + c.2)) ⟨Nat.add_le_add_right (by decide) _, Nat.add_le_add_right (by decide) _⟩ ?_
  refine z_al1 eL_law__2021 h.wd.xne ?_
  refine z_arg (v := S (i + 1)) eL_law__2022 eL_law__2023 eL_law__2025 eL_law__2026 eL_law__2027 h.sc hL ⟨by omega, by omega⟩ h.st ?_
  refine z_dst (av := [zI (S (i + 1))]) (st := []) eL_law__2028 vL_254 hC (Nat.le_of_ble_eq_true rfl) rfl (Nat.le_of_ble_eq_true rfl) h (fun l m s' C' h2 => ?_)
  refine z_al2 eL_law__2031 h2.wd.yne ?_
  refine z_arg (v := S (i + 1)) eL_law__2032 eL_law__2033 eL_law__2035 eL_law__2036 eL_law__2037 h2.sc hL ⟨by omega, by omega⟩ h2.st ?_
  refine z_rst (av := [zI (S (i + 1))]) (st := [zI u]) eL_law__2038 vL_257 hR (Nat.le_of_ble_eq_true rfl) rfl (Nat.le_of_ble_eq_true rfl) h2 (fun C3 τ hk h3 hW => ?_)
  exact z_icmp_eq_rf eL_law__2041 rfl (hg _ _ _ _ _ _ _ h3)
theorem l_29 (hg : zGo G Q x y W n i S c) (hz : ∀ j, zin (S j)) (hi : 0 ≤ i ∧ i + 6 ≤ n) (hL : n < 2147483648) (h : Lp lay x y nx W n S C s σ) : zW G KL_law_ 100 Q 2046 (zLL x y W i v5 v6) [] lay (tC x s C) nx (7 + c.1, 473 + c.2) := by
  obtain ⟨kk, u, v', P', h012, hv, hPv, hC, hR⟩ := p_cuffs (G := G) (nx := nx) (w := zNb (S (i + 1))) h.wd h.re zNb_01
  have hh := h_cuffs h.wd.T h.wd.d h.wl h.wx h012 hC
  refine zW.mono (b' := (1 + c.1, 6 + c.2)) ⟨Nat.add_le_add_right (by decide) _, Nat.add_le_add_right (by decide) _⟩ ?_
  refine z_al1 eL_law__2046 h.wd.xne ?_
  refine z_arg (v := S (i + 1)) eL_law__2047 eL_law__2048 eL_law__2050 eL_law__2051 eL_law__2052 h.sc hL ⟨by omega, by omega⟩ h.st ?_
  refine z_bool eL_law__2053 eL_law__2056 eL_law__2057 eL_law__2060 rfl rfl (hz _) ?_
  refine z_al3 eL_law__2061 (by have := h.wx; have := h.wd.R.1; omega) ?_
  refine z_hst (av := [zP (x + 0), zI (zNb (S (i + 1))), zP W]) (st := []) eL_law__2062 vL_258 hh (Nat.le_of_ble_eq_true rfl) rfl (Nat.le_of_ble_eq_true rfl) h (fun l m s' C' h2 hw => ?_)
  refine z_is5 eL_law__2065 (Nat.ne_of_beq_eq_false rfl) ?_
  refine z_al2 eL_law__2067 h2.wd.yne ?_
  refine z_arg (v := S (i + 1)) eL_law__2068 eL_law__2069 eL_law__2071 eL_law__2072 eL_law__2073 h2.sc hL ⟨by omega, by omega⟩ h2.st ?_
  refine z_bool eL_law__2074 eL_law__2077 eL_law__2078 eL_law__2081 rfl rfl (hz _) ?_
  refine z_rst (av := [zI (zNb (S (i + 1)))]) (st := []) eL_law__2082 vL_261 hR (Nat.le_of_ble_eq_true rfl) rfl (Nat.le_of_ble_eq_true rfl) h2 (fun C3 τ hk h3 hW => ?_)
  exact z_tail hg h3 hk h012 (fun z => by rw [hW, hw z, hv z]) eL_law__2085 eL_law__2087 eL_law__2088 eL_law__2091 eL_law__2093 rfl eL_law__2098 eL_law__2100 rfl eL_law__2103 eL_law__2104 eL_law__2105 eL_law__2106 eL_law__2108 eL_law__2109 eL_law__2110 rfl eL_law__2115 rfl
theorem l_30 (hg : zGo G Q x y W n i S c) (hz : ∀ j, zin (S j)) (hi : 0 ≤ i ∧ i + 6 ≤ n) (hL : n < 2147483648) (h : Lp lay x y nx W n S C s σ) : zW G KL_law_ 100 Q 2118 (zLL x y W i v5 v6) [] lay (tC x s C) nx (7 + c.1, 473 + c.2) := by
  obtain ⟨kk, u, v', P', h012, hv, hPv, hC, hR⟩ := p_likely (G := G) (nx := nx)  h.wd h.re 
  have hh := h_likely h.wd.T h.wd.d h.wl h.wx h012 hC
  refine zW.mono (b' := (1 + c.1, 6 + c.2)) ⟨Nat.add_le_add_right (by decide) _, Nat.add_le_add_right (by decide) _⟩ ?_
  refine z_al1 eL_law__2118 h.wd.xne ?_
  refine z_al3 eL_law__2119 (by have := h.wx; have := h.wd.R.1; omega) ?_
  refine z_hst (av := [zP (x + 0), zP W]) (st := []) eL_law__2120 vL_262 hh (Nat.le_of_ble_eq_true rfl) rfl (Nat.le_of_ble_eq_true rfl) h (fun l m s' C' h2 hw => ?_)
  refine z_is5 eL_law__2123 (Nat.ne_of_beq_eq_false rfl) ?_
  refine z_al2 eL_law__2125 h2.wd.yne ?_
  refine z_rst (av := []) (st := []) eL_law__2126 vL_264 hR (Nat.le_of_ble_eq_true rfl) rfl (Nat.le_of_ble_eq_true rfl) h2 (fun C3 τ hk h3 hW => ?_)
  exact z_tail hg h3 hk h012 (fun z => by rw [hW, hw z, hv z]) eL_law__2129 eL_law__2131 eL_law__2132 eL_law__2135 eL_law__2137 rfl eL_law__2142 eL_law__2144 rfl eL_law__2147 eL_law__2148 eL_law__2149 eL_law__2150 eL_law__2152 eL_law__2153 eL_law__2154 rfl eL_law__2159 rfl
theorem l_31 (hg : zGo G Q x y W n i S c) (hz : ∀ j, zin (S j)) (hi : 0 ≤ i ∧ i + 6 ≤ n) (hL : n < 2147483648) (h : Lp lay x y nx W n S C s σ) : zW G KL_law_ 100 Q 2162 (zLL x y W i v5 v6) [] lay (tC x s C) nx (7 + c.1, 473 + c.2) := by
  obtain ⟨kk, u, v', P', h012, hv, hPv, hC, hR⟩ := p_ago (G := G) (nx := nx) (n := S (i + 1)) h.wd h.re (hz _)
  have hh := h_ago h.wd.T h.wd.d h.wl h.wx h012 hC
  refine zW.mono (b' := (2 + c.1, 12 + c.2)) ⟨Nat.add_le_add_right (by decide) _, Nat.add_le_add_right (by decide) _⟩ ?_
  refine z_al1 eL_law__2162 h.wd.xne ?_
  refine z_arg (v := S (i + 1)) eL_law__2163 eL_law__2164 eL_law__2166 eL_law__2167 eL_law__2168 h.sc hL ⟨by omega, by omega⟩ h.st ?_
  refine z_al3 eL_law__2169 (by have := h.wx; have := h.wd.R.1; omega) ?_
  refine z_hst (av := [zP (x + 0), zI (S (i + 1)), zP W]) (st := []) eL_law__2170 vL_265 hh (Nat.le_of_ble_eq_true rfl) rfl (Nat.le_of_ble_eq_true rfl) h (fun l m s' C' h2 hw => ?_)
  refine z_is5 eL_law__2173 (Nat.ne_of_beq_eq_false rfl) ?_
  refine z_al2 eL_law__2175 h2.wd.yne ?_
  refine z_arg (v := S (i + 1)) eL_law__2176 eL_law__2177 eL_law__2179 eL_law__2180 eL_law__2181 h2.sc hL ⟨by omega, by omega⟩ h2.st ?_
  refine z_rst (av := [zI (S (i + 1))]) (st := []) eL_law__2182 vL_267 hR (Nat.le_of_ble_eq_true rfl) rfl (Nat.le_of_ble_eq_true rfl) h2 (fun C3 τ hk h3 hW => ?_)
  exact z_tail hg h3 hk h012 (fun z => by rw [hW, hw z, hv z]) eL_law__2185 eL_law__2187 eL_law__2188 eL_law__2191 eL_law__2193 rfl eL_law__2198 eL_law__2200 rfl eL_law__2203 eL_law__2204 eL_law__2205 eL_law__2206 eL_law__2208 eL_law__2209 eL_law__2210 rfl eL_law__2215 rfl
theorem l_32 (hg : zGo G Q x y W n i S c) (hz : ∀ j, zin (S j)) (hi : 0 ≤ i ∧ i + 6 ≤ n) (hL : n < 2147483648) (h : Lp lay x y nx W n S C s σ) : zW G KL_law_ 100 Q 2218 (zLL x y W i v5 v6) [] lay (tC x s C) nx (7 + c.1, 473 + c.2) := by
  obtain ⟨kk, u, v', P', h012, hv, hPv, hC, hR⟩ := p_ask (G := G) (nx := nx)  h.wd h.re 
  have hh := h_ask h.wd.T h.wd.d h.wl h.wx h012 hC
  refine zW.mono (b' := (1 + c.1, 6 + c.2)) ⟨Nat.add_le_add_right (by decide) _, Nat.add_le_add_right (by decide) _⟩ ?_
  refine z_al1 eL_law__2218 h.wd.xne ?_
  refine z_al3 eL_law__2219 (by have := h.wx; have := h.wd.R.1; omega) ?_
  refine z_hst (av := [zP (x + 0), zP W]) (st := []) eL_law__2220 vL_268 hh (Nat.le_of_ble_eq_true rfl) rfl (Nat.le_of_ble_eq_true rfl) h (fun l m s' C' h2 hw => ?_)
  refine z_is5 eL_law__2223 (Nat.ne_of_beq_eq_false rfl) ?_
  refine z_al2 eL_law__2225 h2.wd.yne ?_
  refine z_rst (av := []) (st := []) eL_law__2226 vL_270 hR (Nat.le_of_ble_eq_true rfl) rfl (Nat.le_of_ble_eq_true rfl) h2 (fun C3 τ hk h3 hW => ?_)
  exact z_tail hg h3 hk h012 (fun z => by rw [hW, hw z, hv z]) eL_law__2229 eL_law__2231 eL_law__2232 eL_law__2235 eL_law__2237 rfl eL_law__2242 eL_law__2244 rfl eL_law__2247 eL_law__2248 eL_law__2249 eL_law__2250 eL_law__2252 eL_law__2253 eL_law__2254 rfl eL_law__2259 rfl
theorem l_33 (hg : zGo G Q x y W n i S c) (hz : ∀ j, zin (S j)) (hi : 0 ≤ i ∧ i + 6 ≤ n) (hL : n < 2147483648) (h : Lp lay x y nx W n S C s σ) : zW G KL_law_ 100 Q 2262 (zLL x y W i v5 v6) [] lay (tC x s C) nx (7 + c.1, 473 + c.2) := by
  obtain ⟨kk, u, v', P', h012, hv, hPv, hC, hR⟩ := p_windows (G := G) (nx := nx)  h.wd h.re 
  have hk0 : kk = 0 := hPv
  subst hk0
  have hu : u = v' := hv rfl
  subst hu
  refine zW.mono (b' := (0 + c.1, 0 + c.2)) ⟨Nat.add_le_add_right (by decide) _, Nat.add_le_add_right (by decide) _⟩ ?_
  refine z_al1 eL_law__2262 h.wd.xne ?_
  refine z_dst (av := []) (st := []) eL_law__2263 vL_271 hC (Nat.le_of_ble_eq_true rfl) rfl (Nat.le_of_ble_eq_true rfl) h (fun l m s' C' h2 => ?_)
  refine z_al2 eL_law__2266 h2.wd.yne ?_
  refine z_rst (av := []) (st := [zI u]) eL_law__2267 vL_274 hR (Nat.le_of_ble_eq_true rfl) rfl (Nat.le_of_ble_eq_true rfl) h2 (fun C3 τ hk h3 hW => ?_)
  exact z_icmp_eq_rf eL_law__2270 rfl (hg _ _ _ _ _ _ _ h3)
theorem l_34 (hg : zGo G Q x y W n i S c) (hz : ∀ j, zin (S j)) (hi : 0 ≤ i ∧ i + 6 ≤ n) (hL : n < 2147483648) (h : Lp lay x y nx W n S C s σ) : zW G KL_law_ 100 Q 2275 (zLL x y W i v5 v6) [] lay (tC x s C) nx (7 + c.1, 473 + c.2) := by
  obtain ⟨kk, u, v', P', h012, hv, hPv, hC, hR⟩ := p_posts (G := G) (nx := nx) (n := S (i + 1)) h.wd h.re (hz _)
  have hh := h_posts h.wd.T h.wd.d h.wl h.wx h012 hC
  refine zW.mono (b' := (1 + c.1, 6 + c.2)) ⟨Nat.add_le_add_right (by decide) _, Nat.add_le_add_right (by decide) _⟩ ?_
  refine z_al1 eL_law__2275 h.wd.xne ?_
  refine z_arg (v := S (i + 1)) eL_law__2276 eL_law__2277 eL_law__2279 eL_law__2280 eL_law__2281 h.sc hL ⟨by omega, by omega⟩ h.st ?_
  refine z_al3 eL_law__2282 (by have := h.wx; have := h.wd.R.1; omega) ?_
  refine z_hst (av := [zP (x + 0), zI (S (i + 1)), zP W]) (st := []) eL_law__2283 vL_275 hh (Nat.le_of_ble_eq_true rfl) rfl (Nat.le_of_ble_eq_true rfl) h (fun l m s' C' h2 hw => ?_)
  refine z_is5 eL_law__2286 (Nat.ne_of_beq_eq_false rfl) ?_
  refine z_al2 eL_law__2288 h2.wd.yne ?_
  refine z_arg (v := S (i + 1)) eL_law__2289 eL_law__2290 eL_law__2292 eL_law__2293 eL_law__2294 h2.sc hL ⟨by omega, by omega⟩ h2.st ?_
  refine z_rst (av := [zI (S (i + 1))]) (st := []) eL_law__2295 vL_277 hR (Nat.le_of_ble_eq_true rfl) rfl (Nat.le_of_ble_eq_true rfl) h2 (fun C3 τ hk h3 hW => ?_)
  exact z_tail hg h3 hk h012 (fun z => by rw [hW, hw z, hv z]) eL_law__2298 eL_law__2300 eL_law__2301 eL_law__2304 eL_law__2306 rfl eL_law__2311 eL_law__2313 rfl eL_law__2316 eL_law__2317 eL_law__2318 eL_law__2319 eL_law__2321 eL_law__2322 eL_law__2323 rfl eL_law__2328 rfl
theorem l_35 (hg : zGo G Q x y W n i S c) (hz : ∀ j, zin (S j)) (hi : 0 ≤ i ∧ i + 6 ≤ n) (hL : n < 2147483648) (h : Lp lay x y nx W n S C s σ) : zW G KL_law_ 100 Q 2331 (zLL x y W i v5 v6) [] lay (tC x s C) nx (7 + c.1, 473 + c.2) := by
  obtain ⟨kk, u, v', P', h012, hv, hPv, hC, hR⟩ := p_wins (G := G) (nx := nx) (a := S (i + 1)) h.wd h.re 
  have hk0 : kk = 0 := hPv
  subst hk0
  have hu : u = v' := hv rfl
  subst hu
  refine zW.mono (b' := (0 + c.1, 0 + c.2)) ⟨Nat.add_le_add_right (by decide) _, Nat.add_le_add_right (by decide) _⟩ ?_
  refine z_al1 eL_law__2331 h.wd.xne ?_
  refine z_arg (v := S (i + 1)) eL_law__2332 eL_law__2333 eL_law__2335 eL_law__2336 eL_law__2337 h.sc hL ⟨by omega, by omega⟩ h.st ?_
  refine z_dst (av := [zI (S (i + 1))]) (st := []) eL_law__2338 vL_278 hC (Nat.le_of_ble_eq_true rfl) rfl (Nat.le_of_ble_eq_true rfl) h (fun l m s' C' h2 => ?_)
  refine z_al2 eL_law__2341 h2.wd.yne ?_
  refine z_arg (v := S (i + 1)) eL_law__2342 eL_law__2343 eL_law__2345 eL_law__2346 eL_law__2347 h2.sc hL ⟨by omega, by omega⟩ h2.st ?_
  refine z_rst (av := [zI (S (i + 1))]) (st := [zI u]) eL_law__2348 vL_281 hR (Nat.le_of_ble_eq_true rfl) rfl (Nat.le_of_ble_eq_true rfl) h2 (fun C3 τ hk h3 hW => ?_)
  exact z_icmp_eq_rf eL_law__2351 rfl (hg _ _ _ _ _ _ _ h3)
theorem l_36 (hg : zGo G Q x y W n i S c) (hz : ∀ j, zin (S j)) (hi : 0 ≤ i ∧ i + 6 ≤ n) (hL : n < 2147483648) (h : Lp lay x y nx W n S C s σ) : zW G KL_law_ 100 Q 2356 (zLL x y W i v5 v6) [] lay (tC x s C) nx (7 + c.1, 473 + c.2) := by
  obtain ⟨kk, u, v', P', h012, hv, hPv, hC, hR⟩ := p_swings (G := G) (nx := nx) (p := S (i + 1)) h.wd h.re (hz _)
  have hh := h_swings h.wd.T h.wd.d h.wl h.wx h012 hC
  refine zW.mono (b' := (1 + c.1, 6 + c.2)) ⟨Nat.add_le_add_right (by decide) _, Nat.add_le_add_right (by decide) _⟩ ?_
  refine z_al1 eL_law__2356 h.wd.xne ?_
  refine z_arg (v := S (i + 1)) eL_law__2357 eL_law__2358 eL_law__2360 eL_law__2361 eL_law__2362 h.sc hL ⟨by omega, by omega⟩ h.st ?_
  refine z_al3 eL_law__2363 (by have := h.wx; have := h.wd.R.1; omega) ?_
  refine z_hst (av := [zP (x + 0), zI (S (i + 1)), zP W]) (st := []) eL_law__2364 vL_282 hh (Nat.le_of_ble_eq_true rfl) rfl (Nat.le_of_ble_eq_true rfl) h (fun l m s' C' h2 hw => ?_)
  refine z_is5 eL_law__2367 (Nat.ne_of_beq_eq_false rfl) ?_
  refine z_al2 eL_law__2369 h2.wd.yne ?_
  refine z_arg (v := S (i + 1)) eL_law__2370 eL_law__2371 eL_law__2373 eL_law__2374 eL_law__2375 h2.sc hL ⟨by omega, by omega⟩ h2.st ?_
  refine z_rst (av := [zI (S (i + 1))]) (st := []) eL_law__2376 vL_284 hR (Nat.le_of_ble_eq_true rfl) rfl (Nat.le_of_ble_eq_true rfl) h2 (fun C3 τ hk h3 hW => ?_)
  exact z_tail hg h3 hk h012 (fun z => by rw [hW, hw z, hv z]) eL_law__2379 eL_law__2381 eL_law__2382 eL_law__2385 eL_law__2387 rfl eL_law__2392 eL_law__2394 rfl eL_law__2397 eL_law__2398 eL_law__2399 eL_law__2400 eL_law__2402 eL_law__2403 eL_law__2404 rfl eL_law__2409 rfl
theorem l_37 (hg : zGo G Q x y W n i S c) (hz : ∀ j, zin (S j)) (hi : 0 ≤ i ∧ i + 6 ≤ n) (hL : n < 2147483648) (h : Lp lay x y nx W n S C s σ) : zW G KL_law_ 100 Q 2412 (zLL x y W i v5 v6) [] lay (tC x s C) nx (7 + c.1, 473 + c.2) := by
  obtain ⟨kk, u, v', P', h012, hv, hPv, hC, hR⟩ := p_power (G := G) (nx := nx) (p := S (i + 1)) h.wd h.re (hz _)
  have hh := h_power h.wd.T h.wd.d h.wl h.wx h012 hC
  refine zW.mono (b' := (1 + c.1, 6 + c.2)) ⟨Nat.add_le_add_right (by decide) _, Nat.add_le_add_right (by decide) _⟩ ?_
  refine z_al1 eL_law__2412 h.wd.xne ?_
  refine z_arg (v := S (i + 1)) eL_law__2413 eL_law__2414 eL_law__2416 eL_law__2417 eL_law__2418 h.sc hL ⟨by omega, by omega⟩ h.st ?_
  refine z_al3 eL_law__2419 (by have := h.wx; have := h.wd.R.1; omega) ?_
  refine z_hst (av := [zP (x + 0), zI (S (i + 1)), zP W]) (st := []) eL_law__2420 vL_285 hh (Nat.le_of_ble_eq_true rfl) rfl (Nat.le_of_ble_eq_true rfl) h (fun l m s' C' h2 hw => ?_)
  refine z_is5 eL_law__2423 (Nat.ne_of_beq_eq_false rfl) ?_
  refine z_al2 eL_law__2425 h2.wd.yne ?_
  refine z_arg (v := S (i + 1)) eL_law__2426 eL_law__2427 eL_law__2429 eL_law__2430 eL_law__2431 h2.sc hL ⟨by omega, by omega⟩ h2.st ?_
  refine z_rst (av := [zI (S (i + 1))]) (st := []) eL_law__2432 vL_287 hR (Nat.le_of_ble_eq_true rfl) rfl (Nat.le_of_ble_eq_true rfl) h2 (fun C3 τ hk h3 hW => ?_)
  exact z_tail hg h3 hk h012 (fun z => by rw [hW, hw z, hv z]) eL_law__2435 eL_law__2437 eL_law__2438 eL_law__2441 eL_law__2443 rfl eL_law__2448 eL_law__2450 rfl eL_law__2453 eL_law__2454 eL_law__2455 eL_law__2456 eL_law__2458 eL_law__2459 eL_law__2460 rfl eL_law__2465 rfl
theorem l_38 (hg : zGo G Q x y W n i S c) (hz : ∀ j, zin (S j)) (hi : 0 ≤ i ∧ i + 6 ≤ n) (hL : n < 2147483648) (h : Lp lay x y nx W n S C s σ) : zW G KL_law_ 100 Q 2468 (zLL x y W i v5 v6) [] lay (tC x s C) nx (7 + c.1, 473 + c.2) := by
  obtain ⟨kk, u, v', P', h012, hv, hPv, hC, hR⟩ := p_minimal (G := G) (nx := nx)  h.wd h.re 
  have hk0 : kk = 0 := hPv
  subst hk0
  have hu : u = v' := hv rfl
  subst hu
  refine zW.mono (b' := (0 + c.1, 0 + c.2)) ⟨Nat.add_le_add_right (by decide) _, Nat.add_le_add_right (by decide) _⟩ ?_
  refine z_al1 eL_law__2468 h.wd.xne ?_
  refine z_dst (av := []) (st := []) eL_law__2469 vL_288 hC (Nat.le_of_ble_eq_true rfl) rfl (Nat.le_of_ble_eq_true rfl) h (fun l m s' C' h2 => ?_)
  refine z_al2 eL_law__2472 h2.wd.yne ?_
  refine z_rst (av := []) (st := [zI u]) eL_law__2473 vL_291 hR (Nat.le_of_ble_eq_true rfl) rfl (Nat.le_of_ble_eq_true rfl) h2 (fun C3 τ hk h3 hW => ?_)
  exact z_icmp_eq_rf eL_law__2476 rfl (hg _ _ _ _ _ _ _ h3)
theorem l_39 (hg : zGo G Q x y W n i S c) (hz : ∀ j, zin (S j)) (hi : 0 ≤ i ∧ i + 6 ≤ n) (hL : n < 2147483648) (h : Lp lay x y nx W n S C s σ) : zW G KL_law_ 100 Q 2481 (zLL x y W i v5 v6) [] lay (tC x s C) nx (7 + c.1, 473 + c.2) := by
  obtain ⟨kk, u, v', P', h012, hv, hPv, hC, hR⟩ := p_leader (G := G) (nx := nx)  h.wd h.re 
  have hk0 : kk = 0 := hPv
  subst hk0
  have hu : u = v' := hv rfl
  subst hu
  refine zW.mono (b' := (0 + c.1, 0 + c.2)) ⟨Nat.add_le_add_right (by decide) _, Nat.add_le_add_right (by decide) _⟩ ?_
  refine z_al1 eL_law__2481 h.wd.xne ?_
  refine z_dst (av := []) (st := []) eL_law__2482 vL_292 hC (Nat.le_of_ble_eq_true rfl) rfl (Nat.le_of_ble_eq_true rfl) h (fun l m s' C' h2 => ?_)
  refine z_al2 eL_law__2485 h2.wd.yne ?_
  refine z_rst (av := []) (st := [zI u]) eL_law__2486 vL_295 hR (Nat.le_of_ble_eq_true rfl) rfl (Nat.le_of_ble_eq_true rfl) h2 (fun C3 τ hk h3 hW => ?_)
  exact z_icmp_eq_rf eL_law__2489 rfl (hg _ _ _ _ _ _ _ h3)
theorem l_40 (hg : zGo G Q x y W n i S c) (hz : ∀ j, zin (S j)) (hi : 0 ≤ i ∧ i + 6 ≤ n) (hL : n < 2147483648) (h : Lp lay x y nx W n S C s σ) : zW G KL_law_ 100 Q 2494 (zLL x y W i v5 v6) [] lay (tC x s C) nx (7 + c.1, 473 + c.2) := by
  obtain ⟨kk, u, v', P', h012, hv, hPv, hC, hR⟩ := p_minds (G := G) (nx := nx) (k := S (i + 1)) h.wd h.re (hz _)
  have hh := h_minds h.wd.T h.wd.d h.wl h.wx h012 hC
  refine zW.mono (b' := (1 + c.1, 6 + c.2)) ⟨Nat.add_le_add_right (by decide) _, Nat.add_le_add_right (by decide) _⟩ ?_
  refine z_al1 eL_law__2494 h.wd.xne ?_
  refine z_arg (v := S (i + 1)) eL_law__2495 eL_law__2496 eL_law__2498 eL_law__2499 eL_law__2500 h.sc hL ⟨by omega, by omega⟩ h.st ?_
  refine z_al3 eL_law__2501 (by have := h.wx; have := h.wd.R.1; omega) ?_
  refine z_hst (av := [zP (x + 0), zI (S (i + 1)), zP W]) (st := []) eL_law__2502 vL_296 hh (Nat.le_of_ble_eq_true rfl) rfl (Nat.le_of_ble_eq_true rfl) h (fun l m s' C' h2 hw => ?_)
  refine z_is5 eL_law__2505 (Nat.ne_of_beq_eq_false rfl) ?_
  refine z_al2 eL_law__2507 h2.wd.yne ?_
  refine z_arg (v := S (i + 1)) eL_law__2508 eL_law__2509 eL_law__2511 eL_law__2512 eL_law__2513 h2.sc hL ⟨by omega, by omega⟩ h2.st ?_
  refine z_rst (av := [zI (S (i + 1))]) (st := []) eL_law__2514 vL_298 hR (Nat.le_of_ble_eq_true rfl) rfl (Nat.le_of_ble_eq_true rfl) h2 (fun C3 τ hk h3 hW => ?_)
  exact z_tail hg h3 hk h012 (fun z => by rw [hW, hw z, hv z]) eL_law__2517 eL_law__2519 eL_law__2520 eL_law__2523 eL_law__2525 rfl eL_law__2530 eL_law__2532 rfl eL_law__2535 eL_law__2536 eL_law__2537 eL_law__2538 eL_law__2540 eL_law__2541 eL_law__2542 rfl eL_law__2547 rfl
theorem l_41 (hg : zGo G Q x y W n i S c) (hz : ∀ j, zin (S j)) (hi : 0 ≤ i ∧ i + 6 ≤ n) (hL : n < 2147483648) (h : Lp lay x y nx W n S C s σ) : zW G KL_law_ 100 Q 2550 (zLL x y W i v5 v6) [] lay (tC x s C) nx (7 + c.1, 473 + c.2) := by
  obtain ⟨kk, u, v', P', h012, hv, hPv, hC, hR⟩ := p_bargain (G := G) (nx := nx) (p := S (i + 1)) (o := S (i + 2)) h.wd h.re (hz _) (hz _)
  have hh := h_bargain h.wd.T h.wd.d h.wl h.wx h012 hC
  refine zW.mono (b' := (3 + c.1, 18 + c.2)) ⟨Nat.add_le_add_right (by decide) _, Nat.add_le_add_right (by decide) _⟩ ?_
  refine z_al1 eL_law__2550 h.wd.xne ?_
  refine z_arg (v := S (i + 1)) eL_law__2551 eL_law__2552 eL_law__2554 eL_law__2555 eL_law__2556 h.sc hL ⟨by omega, by omega⟩ h.st ?_
  refine z_arg (v := S (i + 2)) eL_law__2557 eL_law__2558 eL_law__2560 eL_law__2561 eL_law__2562 h.sc hL ⟨by omega, by omega⟩ h.st ?_
  refine z_al3 eL_law__2563 (by have := h.wx; have := h.wd.R.1; omega) ?_
  refine z_hst (av := [zP (x + 0), zI (S (i + 1)), zI (S (i + 2)), zP W]) (st := []) eL_law__2564 vL_299 hh (Nat.le_of_ble_eq_true rfl) rfl (Nat.le_of_ble_eq_true rfl) h (fun l m s' C' h2 hw => ?_)
  refine z_is5 eL_law__2567 (Nat.ne_of_beq_eq_false rfl) ?_
  refine z_al2 eL_law__2569 h2.wd.yne ?_
  refine z_arg (v := S (i + 1)) eL_law__2570 eL_law__2571 eL_law__2573 eL_law__2574 eL_law__2575 h2.sc hL ⟨by omega, by omega⟩ h2.st ?_
  refine z_arg (v := S (i + 2)) eL_law__2576 eL_law__2577 eL_law__2579 eL_law__2580 eL_law__2581 h2.sc hL ⟨by omega, by omega⟩ h2.st ?_
  refine z_rst (av := [zI (S (i + 1)), zI (S (i + 2))]) (st := []) eL_law__2582 vL_301 hR (Nat.le_of_ble_eq_true rfl) rfl (Nat.le_of_ble_eq_true rfl) h2 (fun C3 τ hk h3 hW => ?_)
  exact z_tail hg h3 hk h012 (fun z => by rw [hW, hw z, hv z]) eL_law__2585 eL_law__2587 eL_law__2588 eL_law__2591 eL_law__2593 rfl eL_law__2598 eL_law__2600 rfl eL_law__2603 eL_law__2604 eL_law__2605 eL_law__2606 eL_law__2608 eL_law__2609 eL_law__2610 rfl eL_law__2615 rfl
theorem l_42 (hg : zGo G Q x y W n i S c) (hz : ∀ j, zin (S j)) (hi : 0 ≤ i ∧ i + 6 ≤ n) (hL : n < 2147483648) (h : Lp lay x y nx W n S C s σ) : zW G KL_law_ 100 Q 2618 (zLL x y W i v5 v6) [] lay (tC x s C) nx (7 + c.1, 473 + c.2) := by
  obtain ⟨kk, u, v', P', h012, hv, hPv, hC, hR⟩ := p_like (G := G) (nx := nx) (p := S (i + 1)) (o := S (i + 2)) h.wd h.re (hz _) (hz _)
  have hh := h_like h.wd.T h.wd.d h.wl h.wx h012 hC
  refine zW.mono (b' := (3 + c.1, 18 + c.2)) ⟨Nat.add_le_add_right (by decide) _, Nat.add_le_add_right (by decide) _⟩ ?_
  refine z_al1 eL_law__2618 h.wd.xne ?_
  refine z_arg (v := S (i + 1)) eL_law__2619 eL_law__2620 eL_law__2622 eL_law__2623 eL_law__2624 h.sc hL ⟨by omega, by omega⟩ h.st ?_
  refine z_arg (v := S (i + 2)) eL_law__2625 eL_law__2626 eL_law__2628 eL_law__2629 eL_law__2630 h.sc hL ⟨by omega, by omega⟩ h.st ?_
  refine z_al3 eL_law__2631 (by have := h.wx; have := h.wd.R.1; omega) ?_
  refine z_hst (av := [zP (x + 0), zI (S (i + 1)), zI (S (i + 2)), zP W]) (st := []) eL_law__2632 vL_302 hh (Nat.le_of_ble_eq_true rfl) rfl (Nat.le_of_ble_eq_true rfl) h (fun l m s' C' h2 hw => ?_)
  refine z_is5 eL_law__2635 (Nat.ne_of_beq_eq_false rfl) ?_
  refine z_al2 eL_law__2637 h2.wd.yne ?_
  refine z_arg (v := S (i + 1)) eL_law__2638 eL_law__2639 eL_law__2641 eL_law__2642 eL_law__2643 h2.sc hL ⟨by omega, by omega⟩ h2.st ?_
  refine z_arg (v := S (i + 2)) eL_law__2644 eL_law__2645 eL_law__2647 eL_law__2648 eL_law__2649 h2.sc hL ⟨by omega, by omega⟩ h2.st ?_
  refine z_rst (av := [zI (S (i + 1)), zI (S (i + 2))]) (st := []) eL_law__2650 vL_304 hR (Nat.le_of_ble_eq_true rfl) rfl (Nat.le_of_ble_eq_true rfl) h2 (fun C3 τ hk h3 hW => ?_)
  exact z_tail hg h3 hk h012 (fun z => by rw [hW, hw z, hv z]) eL_law__2653 eL_law__2655 eL_law__2656 eL_law__2659 eL_law__2661 rfl eL_law__2666 eL_law__2668 rfl eL_law__2671 eL_law__2672 eL_law__2673 eL_law__2674 eL_law__2676 eL_law__2677 eL_law__2678 rfl eL_law__2683 rfl
theorem l_43 (hg : zGo G Q x y W n i S c) (hz : ∀ j, zin (S j)) (hi : 0 ≤ i ∧ i + 6 ≤ n) (hL : n < 2147483648) (h : Lp lay x y nx W n S C s σ) : zW G KL_law_ 100 Q 2686 (zLL x y W i v5 v6) [] lay (tC x s C) nx (7 + c.1, 473 + c.2) := by
  obtain ⟨kk, u, v', P', h012, hv, hPv, hC, hR⟩ := p_foes (G := G) (nx := nx)  h.wd h.re 
  have hk0 : kk = 0 := hPv
  subst hk0
  have hu : u = v' := hv rfl
  subst hu
  refine zW.mono (b' := (0 + c.1, 0 + c.2)) ⟨Nat.add_le_add_right (by decide) _, Nat.add_le_add_right (by decide) _⟩ ?_
  refine z_al1 eL_law__2686 h.wd.xne ?_
  refine z_dst (av := []) (st := []) eL_law__2687 vL_305 hC (Nat.le_of_ble_eq_true rfl) rfl (Nat.le_of_ble_eq_true rfl) h (fun l m s' C' h2 => ?_)
  refine z_al2 eL_law__2690 h2.wd.yne ?_
  refine z_rst (av := []) (st := [zI u]) eL_law__2691 vL_308 hR (Nat.le_of_ble_eq_true rfl) rfl (Nat.le_of_ble_eq_true rfl) h2 (fun C3 τ hk h3 hW => ?_)
  exact z_icmp_eq_rf eL_law__2694 rfl (hg _ _ _ _ _ _ _ h3)
theorem l_44 (hg : zGo G Q x y W n i S c) (hz : ∀ j, zin (S j)) (hi : 0 ≤ i ∧ i + 6 ≤ n) (hL : n < 2147483648) (h : Lp lay x y nx W n S C s σ) : zW G KL_law_ 100 Q 2699 (zLL x y W i v5 v6) [] lay (tC x s C) nx (7 + c.1, 473 + c.2) := by
  obtain ⟨kk, u, v', P', h012, hv, hPv, hC, hR⟩ := p_dry (G := G) (nx := nx) (n := S (i + 1)) h.wd h.re (hz _)
  have hh := h_dry h.wd.T h.wd.d h.wl h.wx h012 hC
  refine zW.mono (b' := (1 + c.1, 6 + c.2)) ⟨Nat.add_le_add_right (by decide) _, Nat.add_le_add_right (by decide) _⟩ ?_
  refine z_al1 eL_law__2699 h.wd.xne ?_
  refine z_arg (v := S (i + 1)) eL_law__2700 eL_law__2701 eL_law__2703 eL_law__2704 eL_law__2705 h.sc hL ⟨by omega, by omega⟩ h.st ?_
  refine z_al3 eL_law__2706 (by have := h.wx; have := h.wd.R.1; omega) ?_
  refine z_hst (av := [zP (x + 0), zI (S (i + 1)), zP W]) (st := []) eL_law__2707 vL_309 hh (Nat.le_of_ble_eq_true rfl) rfl (Nat.le_of_ble_eq_true rfl) h (fun l m s' C' h2 hw => ?_)
  refine z_is5 eL_law__2710 (Nat.ne_of_beq_eq_false rfl) ?_
  refine z_al2 eL_law__2712 h2.wd.yne ?_
  refine z_arg (v := S (i + 1)) eL_law__2713 eL_law__2714 eL_law__2716 eL_law__2717 eL_law__2718 h2.sc hL ⟨by omega, by omega⟩ h2.st ?_
  refine z_rst (av := [zI (S (i + 1))]) (st := []) eL_law__2719 vL_311 hR (Nat.le_of_ble_eq_true rfl) rfl (Nat.le_of_ble_eq_true rfl) h2 (fun C3 τ hk h3 hW => ?_)
  exact z_tail hg h3 hk h012 (fun z => by rw [hW, hw z, hv z]) eL_law__2722 eL_law__2724 eL_law__2725 eL_law__2728 eL_law__2730 rfl eL_law__2735 eL_law__2737 rfl eL_law__2740 eL_law__2741 eL_law__2742 eL_law__2743 eL_law__2745 eL_law__2746 eL_law__2747 rfl eL_law__2752 rfl
theorem l_45 (hg : zGo G Q x y W n i S c) (hz : ∀ j, zin (S j)) (hi : 0 ≤ i ∧ i + 6 ≤ n) (hL : n < 2147483648) (h : Lp lay x y nx W n S C s σ) : zW G KL_law_ 100 Q 2755 (zLL x y W i v5 v6) [] lay (tC x s C) nx (7 + c.1, 473 + c.2) := by
  obtain ⟨kk, u, v', P', h012, hv, hPv, hC, hR⟩ := p_drought (G := G) (nx := nx) (n := S (i + 1)) h.wd h.re (hz _)
  have hh := h_drought h.wd.T h.wd.d h.wl h.wx h012 hC
  refine zW.mono (b' := (1 + c.1, 6 + c.2)) ⟨Nat.add_le_add_right (by decide) _, Nat.add_le_add_right (by decide) _⟩ ?_
  refine z_al1 eL_law__2755 h.wd.xne ?_
  refine z_arg (v := S (i + 1)) eL_law__2756 eL_law__2757 eL_law__2759 eL_law__2760 eL_law__2761 h.sc hL ⟨by omega, by omega⟩ h.st ?_
  refine z_al3 eL_law__2762 (by have := h.wx; have := h.wd.R.1; omega) ?_
  refine z_hst (av := [zP (x + 0), zI (S (i + 1)), zP W]) (st := []) eL_law__2763 vL_312 hh (Nat.le_of_ble_eq_true rfl) rfl (Nat.le_of_ble_eq_true rfl) h (fun l m s' C' h2 hw => ?_)
  refine z_is5 eL_law__2766 (Nat.ne_of_beq_eq_false rfl) ?_
  refine z_al2 eL_law__2768 h2.wd.yne ?_
  refine z_arg (v := S (i + 1)) eL_law__2769 eL_law__2770 eL_law__2772 eL_law__2773 eL_law__2774 h2.sc hL ⟨by omega, by omega⟩ h2.st ?_
  refine z_rst (av := [zI (S (i + 1))]) (st := []) eL_law__2775 vL_314 hR (Nat.le_of_ble_eq_true rfl) rfl (Nat.le_of_ble_eq_true rfl) h2 (fun C3 τ hk h3 hW => ?_)
  exact z_tail hg h3 hk h012 (fun z => by rw [hW, hw z, hv z]) eL_law__2778 eL_law__2780 eL_law__2781 eL_law__2784 eL_law__2786 rfl eL_law__2791 eL_law__2793 rfl eL_law__2796 eL_law__2797 eL_law__2798 eL_law__2799 eL_law__2801 eL_law__2802 eL_law__2803 rfl eL_law__2808 rfl
theorem l_46 (hg : zGo G Q x y W n i S c) (hz : ∀ j, zin (S j)) (hi : 0 ≤ i ∧ i + 6 ≤ n) (hL : n < 2147483648) (h : Lp lay x y nx W n S C s σ) : zW G KL_law_ 100 Q 2811 (zLL x y W i v5 v6) [] lay (tC x s C) nx (7 + c.1, 473 + c.2) := by
  obtain ⟨kk, u, v', P', h012, hv, hPv, hC, hR⟩ := p_quorate (G := G) (nx := nx)  h.wd h.re 
  have hk0 : kk = 0 := hPv
  subst hk0
  have hu : u = v' := hv rfl
  subst hu
  refine zW.mono (b' := (0 + c.1, 0 + c.2)) ⟨Nat.add_le_add_right (by decide) _, Nat.add_le_add_right (by decide) _⟩ ?_
  refine z_al1 eL_law__2811 h.wd.xne ?_
  refine z_dst (av := []) (st := []) eL_law__2812 vL_315 hC (Nat.le_of_ble_eq_true rfl) rfl (Nat.le_of_ble_eq_true rfl) h (fun l m s' C' h2 => ?_)
  refine z_al2 eL_law__2815 h2.wd.yne ?_
  refine z_rst (av := []) (st := [zI u]) eL_law__2816 vL_319 hR (Nat.le_of_ble_eq_true rfl) rfl (Nat.le_of_ble_eq_true rfl) h2 (fun C3 τ hk h3 hW => ?_)
  exact z_icmp_eq_rf eL_law__2819 rfl (hg _ _ _ _ _ _ _ h3)
theorem l_47 (hg : zGo G Q x y W n i S c) (hz : ∀ j, zin (S j)) (hi : 0 ≤ i ∧ i + 6 ≤ n) (hL : n < 2147483648) (h : Lp lay x y nx W n S C s σ) : zW G KL_law_ 100 Q 2824 (zLL x y W i v5 v6) [] lay (tC x s C) nx (7 + c.1, 473 + c.2) := by
  obtain ⟨kk, u, v', P', h012, hv, hPv, hC, hR⟩ := p_enough (G := G) (nx := nx)  h.wd h.re 
  have hk0 : kk = 0 := hPv
  subst hk0
  have hu : u = v' := hv rfl
  subst hu
  refine zW.mono (b' := (0 + c.1, 0 + c.2)) ⟨Nat.add_le_add_right (by decide) _, Nat.add_le_add_right (by decide) _⟩ ?_
  refine z_al1 eL_law__2824 h.wd.xne ?_
  refine z_dst (av := []) (st := []) eL_law__2825 vL_320 hC (Nat.le_of_ble_eq_true rfl) rfl (Nat.le_of_ble_eq_true rfl) h (fun l m s' C' h2 => ?_)
  refine z_al2 eL_law__2828 h2.wd.yne ?_
  refine z_rst (av := []) (st := [zI u]) eL_law__2829 vL_323 hR (Nat.le_of_ble_eq_true rfl) rfl (Nat.le_of_ble_eq_true rfl) h2 (fun C3 τ hk h3 hW => ?_)
  exact z_icmp_eq_rf eL_law__2832 rfl (hg _ _ _ _ _ _ _ h3)
theorem l_48 (hg : zGo G Q x y W n i S c) (hz : ∀ j, zin (S j)) (hi : 0 ≤ i ∧ i + 6 ≤ n) (hL : n < 2147483648) (h : Lp lay x y nx W n S C s σ) : zW G KL_law_ 100 Q 2837 (zLL x y W i v5 v6) [] lay (tC x s C) nx (7 + c.1, 473 + c.2) := by
  obtain ⟨kk, u, v', P', h012, hv, hPv, hC, hR⟩ := p_rests (G := G) (nx := nx) (k := S (i + 1)) h.wd h.re (hz _)
  have hh := h_rests h.wd.T h.wd.d h.wl h.wx h012 hC
  refine zW.mono (b' := (1 + c.1, 6 + c.2)) ⟨Nat.add_le_add_right (by decide) _, Nat.add_le_add_right (by decide) _⟩ ?_
  refine z_al1 eL_law__2837 h.wd.xne ?_
  refine z_arg (v := S (i + 1)) eL_law__2838 eL_law__2839 eL_law__2841 eL_law__2842 eL_law__2843 h.sc hL ⟨by omega, by omega⟩ h.st ?_
  refine z_al3 eL_law__2844 (by have := h.wx; have := h.wd.R.1; omega) ?_
  refine z_hst (av := [zP (x + 0), zI (S (i + 1)), zP W]) (st := []) eL_law__2845 vL_324 hh (Nat.le_of_ble_eq_true rfl) rfl (Nat.le_of_ble_eq_true rfl) h (fun l m s' C' h2 hw => ?_)
  refine z_is5 eL_law__2848 (Nat.ne_of_beq_eq_false rfl) ?_
  refine z_al2 eL_law__2850 h2.wd.yne ?_
  refine z_arg (v := S (i + 1)) eL_law__2851 eL_law__2852 eL_law__2854 eL_law__2855 eL_law__2856 h2.sc hL ⟨by omega, by omega⟩ h2.st ?_
  refine z_rst (av := [zI (S (i + 1))]) (st := []) eL_law__2857 vL_326 hR (Nat.le_of_ble_eq_true rfl) rfl (Nat.le_of_ble_eq_true rfl) h2 (fun C3 τ hk h3 hW => ?_)
  exact z_tail hg h3 hk h012 (fun z => by rw [hW, hw z, hv z]) eL_law__2860 eL_law__2862 eL_law__2863 eL_law__2866 eL_law__2868 rfl eL_law__2873 eL_law__2875 rfl eL_law__2878 eL_law__2879 eL_law__2880 eL_law__2881 eL_law__2883 eL_law__2884 eL_law__2885 rfl eL_law__2890 rfl
theorem l_49 (hg : zGo G Q x y W n i S c) (hz : ∀ j, zin (S j)) (hi : 0 ≤ i ∧ i + 6 ≤ n) (hL : n < 2147483648) (h : Lp lay x y nx W n S C s σ) : zW G KL_law_ 100 Q 2893 (zLL x y W i v5 v6) [] lay (tC x s C) nx (7 + c.1, 473 + c.2) := by
  obtain ⟨kk, u, v', P', h012, hv, hPv, hC, hR⟩ := p_tabled (G := G) (nx := nx)  h.wd h.re 
  have hk0 : kk = 0 := hPv
  subst hk0
  have hu : u = v' := hv rfl
  subst hu
  refine zW.mono (b' := (0 + c.1, 0 + c.2)) ⟨Nat.add_le_add_right (by decide) _, Nat.add_le_add_right (by decide) _⟩ ?_
  refine z_al1 eL_law__2893 h.wd.xne ?_
  refine z_dst (av := []) (st := []) eL_law__2894 vL_327 hC (Nat.le_of_ble_eq_true rfl) rfl (Nat.le_of_ble_eq_true rfl) h (fun l m s' C' h2 => ?_)
  refine z_al2 eL_law__2897 h2.wd.yne ?_
  refine z_rst (av := []) (st := [zI u]) eL_law__2898 vL_330 hR (Nat.le_of_ble_eq_true rfl) rfl (Nat.le_of_ble_eq_true rfl) h2 (fun C3 τ hk h3 hW => ?_)
  exact z_icmp_eq_rf eL_law__2901 rfl (hg _ _ _ _ _ _ _ h3)
theorem l_50 (hg : zGo G Q x y W n i S c) (hz : ∀ j, zin (S j)) (hi : 0 ≤ i ∧ i + 6 ≤ n) (hL : n < 2147483648) (h : Lp lay x y nx W n S C s σ) : zW G KL_law_ 100 Q 2906 (zLL x y W i v5 v6) [] lay (tC x s C) nx (7 + c.1, 473 + c.2) := by
  obtain ⟨kk, u, v', P', h012, hv, hPv, hC, hR⟩ := p_soaked (G := G) (nx := nx)  h.wd h.re 
  have hk0 : kk = 0 := hPv
  subst hk0
  have hu : u = v' := hv rfl
  subst hu
  refine zW.mono (b' := (0 + c.1, 0 + c.2)) ⟨Nat.add_le_add_right (by decide) _, Nat.add_le_add_right (by decide) _⟩ ?_
  refine z_al1 eL_law__2906 h.wd.xne ?_
  refine z_dst (av := []) (st := []) eL_law__2907 vL_331 hC (Nat.le_of_ble_eq_true rfl) rfl (Nat.le_of_ble_eq_true rfl) h (fun l m s' C' h2 => ?_)
  refine z_al2 eL_law__2910 h2.wd.yne ?_
  refine z_rst (av := []) (st := [zI u]) eL_law__2911 vL_334 hR (Nat.le_of_ble_eq_true rfl) rfl (Nat.le_of_ble_eq_true rfl) h2 (fun C3 τ hk h3 hW => ?_)
  exact z_icmp_eq_rf eL_law__2914 rfl (hg _ _ _ _ _ _ _ h3)
theorem l_51 (hg : zGo G Q x y W n i S c) (hz : ∀ j, zin (S j)) (hi : 0 ≤ i ∧ i + 6 ≤ n) (hL : n < 2147483648) (h : Lp lay x y nx W n S C s σ) : zW G KL_law_ 100 Q 2919 (zLL x y W i v5 v6) [] lay (tC x s C) nx (7 + c.1, 473 + c.2) := by
  obtain ⟨kk, u, v', P', h012, hv, hPv, hC, hR⟩ := p_twins (G := G) (nx := nx)  h.wd h.re 
  have hk0 : kk = 0 := hPv
  subst hk0
  have hu : u = v' := hv rfl
  subst hu
  refine zW.mono (b' := (0 + c.1, 0 + c.2)) ⟨Nat.add_le_add_right (by decide) _, Nat.add_le_add_right (by decide) _⟩ ?_
  refine z_al1 eL_law__2919 h.wd.xne ?_
  refine z_dst (av := []) (st := []) eL_law__2920 vL_335 hC (Nat.le_of_ble_eq_true rfl) rfl (Nat.le_of_ble_eq_true rfl) h (fun l m s' C' h2 => ?_)
  refine z_al2 eL_law__2923 h2.wd.yne ?_
  refine z_rst (av := []) (st := [zI u]) eL_law__2924 vL_338 hR (Nat.le_of_ble_eq_true rfl) rfl (Nat.le_of_ble_eq_true rfl) h2 (fun C3 τ hk h3 hW => ?_)
  exact z_icmp_eq_rf eL_law__2927 rfl (hg _ _ _ _ _ _ _ h3)
theorem l_52 (hg : zGo G Q x y W n i S c) (hz : ∀ j, zin (S j)) (hi : 0 ≤ i ∧ i + 6 ≤ n) (hL : n < 2147483648) (h : Lp lay x y nx W n S C s σ) : zW G KL_law_ 100 Q 2932 (zLL x y W i v5 v6) [] lay (tC x s C) nx (7 + c.1, 473 + c.2) := by
  obtain ⟨kk, u, v', P', h012, hv, hPv, hC, hR⟩ := p_richest (G := G) (nx := nx)  h.wd h.re 
  have hk0 : kk = 0 := hPv
  subst hk0
  have hu : u = v' := hv rfl
  subst hu
  refine zW.mono (b' := (0 + c.1, 0 + c.2)) ⟨Nat.add_le_add_right (by decide) _, Nat.add_le_add_right (by decide) _⟩ ?_
  refine z_al1 eL_law__2932 h.wd.xne ?_
  refine z_dst (av := []) (st := []) eL_law__2933 vL_339 hC (Nat.le_of_ble_eq_true rfl) rfl (Nat.le_of_ble_eq_true rfl) h (fun l m s' C' h2 => ?_)
  refine z_al2 eL_law__2936 h2.wd.yne ?_
  refine z_rst (av := []) (st := [zI u]) eL_law__2937 vL_342 hR (Nat.le_of_ble_eq_true rfl) rfl (Nat.le_of_ble_eq_true rfl) h2 (fun C3 τ hk h3 hW => ?_)
  exact z_icmp_eq_rf eL_law__2940 rfl (hg _ _ _ _ _ _ _ h3)
theorem l_53 (hg : zGo G Q x y W n i S c) (hz : ∀ j, zin (S j)) (hi : 0 ≤ i ∧ i + 6 ≤ n) (hL : n < 2147483648) (h : Lp lay x y nx W n S C s σ) : zW G KL_law_ 100 Q 2945 (zLL x y W i v5 v6) [] lay (tC x s C) nx (7 + c.1, 473 + c.2) := by
  obtain ⟨kk, u, v', P', h012, hv, hPv, hC, hR⟩ := p_trial (G := G) (nx := nx) (n := S (i + 1)) (w := zNb (S (i + 2))) h.wd h.re (hz _) zNb_01
  have hh := h_trial h.wd.T h.wd.d h.wl h.wx h012 hC
  refine zW.mono (b' := (1 + c.1, 6 + c.2)) ⟨Nat.add_le_add_right (by decide) _, Nat.add_le_add_right (by decide) _⟩ ?_
  refine z_al1 eL_law__2945 h.wd.xne ?_
  refine z_arg (v := S (i + 1)) eL_law__2946 eL_law__2947 eL_law__2949 eL_law__2950 eL_law__2951 h.sc hL ⟨by omega, by omega⟩ h.st ?_
  refine z_arg (v := S (i + 2)) eL_law__2952 eL_law__2953 eL_law__2955 eL_law__2956 eL_law__2957 h.sc hL ⟨by omega, by omega⟩ h.st ?_
  refine z_bool eL_law__2958 eL_law__2961 eL_law__2962 eL_law__2965 rfl rfl (hz _) ?_
  refine z_al3 eL_law__2966 (by have := h.wx; have := h.wd.R.1; omega) ?_
  refine z_hst (av := [zP (x + 0), zI (S (i + 1)), zI (zNb (S (i + 2))), zP W]) (st := []) eL_law__2967 vL_343 hh (Nat.le_of_ble_eq_true rfl) rfl (Nat.le_of_ble_eq_true rfl) h (fun l m s' C' h2 hw => ?_)
  refine z_is5 eL_law__2970 (Nat.ne_of_beq_eq_false rfl) ?_
  refine z_al2 eL_law__2972 h2.wd.yne ?_
  refine z_arg (v := S (i + 1)) eL_law__2973 eL_law__2974 eL_law__2976 eL_law__2977 eL_law__2978 h2.sc hL ⟨by omega, by omega⟩ h2.st ?_
  refine z_arg (v := S (i + 2)) eL_law__2979 eL_law__2980 eL_law__2982 eL_law__2983 eL_law__2984 h2.sc hL ⟨by omega, by omega⟩ h2.st ?_
  refine z_bool eL_law__2985 eL_law__2988 eL_law__2989 eL_law__2992 rfl rfl (hz _) ?_
  refine z_rst (av := [zI (S (i + 1)), zI (zNb (S (i + 2)))]) (st := []) eL_law__2993 vL_345 hR (Nat.le_of_ble_eq_true rfl) rfl (Nat.le_of_ble_eq_true rfl) h2 (fun C3 τ hk h3 hW => ?_)
  exact z_tail hg h3 hk h012 (fun z => by rw [hW, hw z, hv z]) eL_law__2996 eL_law__2998 eL_law__2999 eL_law__3002 eL_law__3004 rfl eL_law__3009 eL_law__3011 rfl eL_law__3014 eL_law__3015 eL_law__3016 eL_law__3017 eL_law__3019 eL_law__3020 eL_law__3021 rfl eL_law__3026 rfl
theorem l_54 (hg : zGo G Q x y W n i S c) (hz : ∀ j, zin (S j)) (hi : 0 ≤ i ∧ i + 6 ≤ n) (hL : n < 2147483648) (h : Lp lay x y nx W n S C s σ) : zW G KL_law_ 100 Q 3029 (zLL x y W i v5 v6) [] lay (tC x s C) nx (7 + c.1, 473 + c.2) := by
  obtain ⟨kk, u, v', P', h012, hv, hPv, hC, hR⟩ := p_span (G := G) (nx := nx) (n := S (i + 1)) (w := zNb (S (i + 2))) h.wd h.re (hz _) zNb_01
  have hh := h_span h.wd.T h.wd.d h.wl h.wx h012 hC
  refine zW.mono (b' := (1 + c.1, 6 + c.2)) ⟨Nat.add_le_add_right (by decide) _, Nat.add_le_add_right (by decide) _⟩ ?_
  refine z_al1 eL_law__3029 h.wd.xne ?_
  refine z_arg (v := S (i + 1)) eL_law__3030 eL_law__3031 eL_law__3033 eL_law__3034 eL_law__3035 h.sc hL ⟨by omega, by omega⟩ h.st ?_
  refine z_arg (v := S (i + 2)) eL_law__3036 eL_law__3037 eL_law__3039 eL_law__3040 eL_law__3041 h.sc hL ⟨by omega, by omega⟩ h.st ?_
  refine z_bool eL_law__3042 eL_law__3045 eL_law__3046 eL_law__3049 rfl rfl (hz _) ?_
  refine z_al3 eL_law__3050 (by have := h.wx; have := h.wd.R.1; omega) ?_
  refine z_hst (av := [zP (x + 0), zI (S (i + 1)), zI (zNb (S (i + 2))), zP W]) (st := []) eL_law__3051 vL_346 hh (Nat.le_of_ble_eq_true rfl) rfl (Nat.le_of_ble_eq_true rfl) h (fun l m s' C' h2 hw => ?_)
  refine z_is5 eL_law__3054 (Nat.ne_of_beq_eq_false rfl) ?_
  refine z_al2 eL_law__3056 h2.wd.yne ?_
  refine z_arg (v := S (i + 1)) eL_law__3057 eL_law__3058 eL_law__3060 eL_law__3061 eL_law__3062 h2.sc hL ⟨by omega, by omega⟩ h2.st ?_
  refine z_arg (v := S (i + 2)) eL_law__3063 eL_law__3064 eL_law__3066 eL_law__3067 eL_law__3068 h2.sc hL ⟨by omega, by omega⟩ h2.st ?_
  refine z_bool eL_law__3069 eL_law__3072 eL_law__3073 eL_law__3076 rfl rfl (hz _) ?_
  refine z_rst (av := [zI (S (i + 1)), zI (zNb (S (i + 2)))]) (st := []) eL_law__3077 vL_348 hR (Nat.le_of_ble_eq_true rfl) rfl (Nat.le_of_ble_eq_true rfl) h2 (fun C3 τ hk h3 hW => ?_)
  exact z_tail hg h3 hk h012 (fun z => by rw [hW, hw z, hv z]) eL_law__3080 eL_law__3082 eL_law__3083 eL_law__3086 eL_law__3088 rfl eL_law__3093 eL_law__3095 rfl eL_law__3098 eL_law__3099 eL_law__3100 eL_law__3101 eL_law__3103 eL_law__3104 eL_law__3105 rfl eL_law__3110 rfl
theorem l_55 (hg : zGo G Q x y W n i S c) (hz : ∀ j, zin (S j)) (hi : 0 ≤ i ∧ i + 6 ≤ n) (hL : n < 2147483648) (h : Lp lay x y nx W n S C s σ) : zW G KL_law_ 100 Q 3113 (zLL x y W i v5 v6) [] lay (tC x s C) nx (7 + c.1, 473 + c.2) := by
  obtain ⟨kk, u, v', P', h012, hv, hPv, hC, hR⟩ := p_led (G := G) (nx := nx) (k := S (i + 1)) (w := zNb (S (i + 2))) h.wd h.re (hz _) zNb_01
  have hh := h_led h.wd.T h.wd.d h.wl h.wx h012 hC
  refine zW.mono (b' := (1 + c.1, 6 + c.2)) ⟨Nat.add_le_add_right (by decide) _, Nat.add_le_add_right (by decide) _⟩ ?_
  refine z_al1 eL_law__3113 h.wd.xne ?_
  refine z_arg (v := S (i + 1)) eL_law__3114 eL_law__3115 eL_law__3117 eL_law__3118 eL_law__3119 h.sc hL ⟨by omega, by omega⟩ h.st ?_
  refine z_arg (v := S (i + 2)) eL_law__3120 eL_law__3121 eL_law__3123 eL_law__3124 eL_law__3125 h.sc hL ⟨by omega, by omega⟩ h.st ?_
  refine z_bool eL_law__3126 eL_law__3129 eL_law__3130 eL_law__3133 rfl rfl (hz _) ?_
  refine z_al3 eL_law__3134 (by have := h.wx; have := h.wd.R.1; omega) ?_
  refine z_hst (av := [zP (x + 0), zI (S (i + 1)), zI (zNb (S (i + 2))), zP W]) (st := []) eL_law__3135 vL_349 hh (Nat.le_of_ble_eq_true rfl) rfl (Nat.le_of_ble_eq_true rfl) h (fun l m s' C' h2 hw => ?_)
  refine z_is5 eL_law__3138 (Nat.ne_of_beq_eq_false rfl) ?_
  refine z_al2 eL_law__3140 h2.wd.yne ?_
  refine z_arg (v := S (i + 1)) eL_law__3141 eL_law__3142 eL_law__3144 eL_law__3145 eL_law__3146 h2.sc hL ⟨by omega, by omega⟩ h2.st ?_
  refine z_arg (v := S (i + 2)) eL_law__3147 eL_law__3148 eL_law__3150 eL_law__3151 eL_law__3152 h2.sc hL ⟨by omega, by omega⟩ h2.st ?_
  refine z_bool eL_law__3153 eL_law__3156 eL_law__3157 eL_law__3160 rfl rfl (hz _) ?_
  refine z_rst (av := [zI (S (i + 1)), zI (zNb (S (i + 2)))]) (st := []) eL_law__3161 vL_351 hR (Nat.le_of_ble_eq_true rfl) rfl (Nat.le_of_ble_eq_true rfl) h2 (fun C3 τ hk h3 hW => ?_)
  exact z_tail hg h3 hk h012 (fun z => by rw [hW, hw z, hv z]) eL_law__3164 eL_law__3166 eL_law__3167 eL_law__3170 eL_law__3172 rfl eL_law__3177 eL_law__3179 rfl eL_law__3182 eL_law__3183 eL_law__3184 eL_law__3185 eL_law__3187 eL_law__3188 eL_law__3189 rfl eL_law__3194 rfl
theorem l_56 (hg : zGo G Q x y W n i S c) (hz : ∀ j, zin (S j)) (hi : 0 ≤ i ∧ i + 6 ≤ n) (hL : n < 2147483648) (h : Lp lay x y nx W n S C s σ) : zW G KL_law_ 100 Q 3197 (zLL x y W i v5 v6) [] lay (tC x s C) nx (7 + c.1, 473 + c.2) := by
  obtain ⟨kk, u, v', P', h012, hv, hPv, hC, hR⟩ := p_log (G := G) (nx := nx) (a := S (i + 1)) (w := S (i + 2)) h.wd h.re (hz _) (hz _)
  have hh := h_log h.wd.T h.wd.d h.wl h.wx h012 hC
  refine zW.mono (b' := (1 + c.1, 6 + c.2)) ⟨Nat.add_le_add_right (by decide) _, Nat.add_le_add_right (by decide) _⟩ ?_
  refine z_al1 eL_law__3197 h.wd.xne ?_
  refine z_arg (v := S (i + 1)) eL_law__3198 eL_law__3199 eL_law__3201 eL_law__3202 eL_law__3203 h.sc hL ⟨by omega, by omega⟩ h.st ?_
  refine z_arg (v := S (i + 2)) eL_law__3204 eL_law__3205 eL_law__3207 eL_law__3208 eL_law__3209 h.sc hL ⟨by omega, by omega⟩ h.st ?_
  refine z_al3 eL_law__3210 (by have := h.wx; have := h.wd.R.1; omega) ?_
  refine z_hst (av := [zP (x + 0), zI (S (i + 1)), zI (S (i + 2)), zP W]) (st := []) eL_law__3211 vL_352 hh (Nat.le_of_ble_eq_true rfl) rfl (Nat.le_of_ble_eq_true rfl) h (fun l m s' C' h2 hw => ?_)
  refine z_is5 eL_law__3214 (Nat.ne_of_beq_eq_false rfl) ?_
  refine z_al2 eL_law__3216 h2.wd.yne ?_
  refine z_arg (v := S (i + 1)) eL_law__3217 eL_law__3218 eL_law__3220 eL_law__3221 eL_law__3222 h2.sc hL ⟨by omega, by omega⟩ h2.st ?_
  refine z_arg (v := S (i + 2)) eL_law__3223 eL_law__3224 eL_law__3226 eL_law__3227 eL_law__3228 h2.sc hL ⟨by omega, by omega⟩ h2.st ?_
  refine z_rst (av := [zI (S (i + 1)), zI (S (i + 2))]) (st := []) eL_law__3229 vL_354 hR (Nat.le_of_ble_eq_true rfl) rfl (Nat.le_of_ble_eq_true rfl) h2 (fun C3 τ hk h3 hW => ?_)
  exact z_tail hg h3 hk h012 (fun z => by rw [hW, hw z, hv z]) eL_law__3232 eL_law__3234 eL_law__3235 eL_law__3238 eL_law__3240 rfl eL_law__3245 eL_law__3247 rfl eL_law__3250 eL_law__3251 eL_law__3252 eL_law__3253 eL_law__3255 eL_law__3256 eL_law__3257 rfl eL_law__3262 rfl
theorem l_57 (hg : zGo G Q x y W n i S c) (hz : ∀ j, zin (S j)) (hi : 0 ≤ i ∧ i + 6 ≤ n) (hL : n < 2147483648) (h : Lp lay x y nx W n S C s σ) : zW G KL_law_ 100 Q 3265 (zLL x y W i v5 v6) [] lay (tC x s C) nx (7 + c.1, 473 + c.2) := by
  obtain ⟨kk, u, v', P', h012, hv, hPv, hC, hR⟩ := p_seed (G := G) (nx := nx) (n := S (i + 1)) h.wd h.re 
  have hk0 : kk = 0 := hPv
  subst hk0
  have hu : u = v' := hv rfl
  subst hu
  refine zW.mono (b' := (0 + c.1, 0 + c.2)) ⟨Nat.add_le_add_right (by decide) _, Nat.add_le_add_right (by decide) _⟩ ?_
  refine z_al1 eL_law__3265 h.wd.xne ?_
  refine z_arg (v := S (i + 1)) eL_law__3266 eL_law__3267 eL_law__3269 eL_law__3270 eL_law__3271 h.sc hL ⟨by omega, by omega⟩ h.st ?_
  refine z_dst (av := [zI (S (i + 1))]) (st := []) eL_law__3272 vL_355 hC (Nat.le_of_ble_eq_true rfl) rfl (Nat.le_of_ble_eq_true rfl) h (fun l m s' C' h2 => ?_)
  refine z_al2 eL_law__3275 h2.wd.yne ?_
  refine z_arg (v := S (i + 1)) eL_law__3276 eL_law__3277 eL_law__3279 eL_law__3280 eL_law__3281 h2.sc hL ⟨by omega, by omega⟩ h2.st ?_
  refine z_rst (av := [zI (S (i + 1))]) (st := [zI u]) eL_law__3282 vL_358 hR (Nat.le_of_ble_eq_true rfl) rfl (Nat.le_of_ble_eq_true rfl) h2 (fun C3 τ hk h3 hW => ?_)
  exact z_icmp_eq_rf eL_law__3285 rfl (hg _ _ _ _ _ _ _ h3)
theorem l_58 (hg : zGo G Q x y W n i S c) (hz : ∀ j, zin (S j)) (hi : 0 ≤ i ∧ i + 6 ≤ n) (hL : n < 2147483648) (h : Lp lay x y nx W n S C s σ) : zW G KL_law_ 100 Q 3290 (zLL x y W i v5 v6) [] lay (tC x s C) nx (7 + c.1, 473 + c.2) := by
  obtain ⟨kk, u, v', P', h012, hv, hPv, hC, hR⟩ := p_undo (G := G) (nx := nx)  h.wd h.re 
  have hk0 : kk = 0 := hPv
  subst hk0
  have hu : u = v' := hv rfl
  subst hu
  refine zW.mono (b' := (0 + c.1, 0 + c.2)) ⟨Nat.add_le_add_right (by decide) _, Nat.add_le_add_right (by decide) _⟩ ?_
  refine z_al1 eL_law__3290 h.wd.xne ?_
  refine z_dst (av := []) (st := []) eL_law__3291 vL_359 hC (Nat.le_of_ble_eq_true rfl) rfl (Nat.le_of_ble_eq_true rfl) h (fun l m s' C' h2 => ?_)
  refine z_al2 eL_law__3294 h2.wd.yne ?_
  refine z_rst (av := []) (st := [zI u]) eL_law__3295 vL_362 hR (Nat.le_of_ble_eq_true rfl) rfl (Nat.le_of_ble_eq_true rfl) h2 (fun C3 τ hk h3 hW => ?_)
  exact z_icmp_eq_rf eL_law__3298 rfl (hg _ _ _ _ _ _ _ h3)
theorem l_59 (hg : zGo G Q x y W n i S c) (hz : ∀ j, zin (S j)) (hi : 0 ≤ i ∧ i + 6 ≤ n) (hL : n < 2147483648) (h : Lp lay x y nx W n S C s σ) : zW G KL_law_ 100 Q 3303 (zLL x y W i v5 v6) [] lay (tC x s C) nx (7 + c.1, 473 + c.2) := by
  have hC := p_image (G := G) (nx := nx) h.wd h.re
  have hy0 := h.wd.R.1
  refine zW.mono (b' := c) ⟨Nat.le_add_left _ _, Nat.le_add_left _ _⟩ ?_
  refine z_al1 eL_law__3303 h.wd.xne ?_
  have hox : lay (x + 0) = (11 + 1, 15) := h.wd.T.2 0 (Or.inl ⟨by decide, by decide⟩)
  have hgo : ∀ s', Rel lay x C s' (zset (zRow (zset σ 0 0 0) 2 (qcopy (σ 1) (σ 2) 826)) 0 3 1) → zW G KL_law_ 100 Q 3307 (zLL x y W i v5 v6) [] lay (tC x s' C) nx c := by
    intro s' hr
    refine z_al2 eL_law__3307 h.wd.yne ?_
    have hM := m_X12_image (G := G) (lay := lay) (σ := σ) (C0 := tC x s' C) (nx := nx) h.wd.R
    rw [← h.wd.eq] at hM
    obtain ⟨f1, f2, f3, r0, f4, f5⟩ := vL_366
    have h8 := z_callV (b'' := c) (Q := Q) (L := zLL x y W i v5 v6) (st := []) (av := []) eL_law__3308 rfl f1 f2 f3 hM (D := 100) (Nat.le_of_ble_eq_true rfl) h.wd.R.x f4 f5 rfl (Nat.le_of_ble_eq_true rfl)
      (fun r l c9 m9 q => by
        obtain ⟨q1, q2, q3, q4⟩ := q
        have e := Sum.inl.inj q1
        subst e
        rw [q2, q3, q4, h.wd.swap]
        exact z_goto eL_law__3311 rfl (hg _ _ _ _ _ _ _ ⟨h.wd.rc, hr.rc h.wd.R, h.sc, fun j => by rw [rC_out (Or.inl (by omega))]; exact h.ss j, h.wl, h.wx⟩))
      (fun E l c9 m9 q => by
        obtain ⟨q1, q2, q3, q4⟩ := q
        cases q1)
    exact zW.mono ⟨Nat.le_of_eq (Nat.zero_add _), Nat.le_of_eq (Nat.zero_add _)⟩ h8
  obtain ⟨f1, f2, f3, r0, f4, f5⟩ := vL_363
  have h9 := z_callV (b'' := c) (Q := Q) (L := zLL x y W i v5 v6) (st := []) (av := []) eL_law__3304 rfl f1 f2 f3 hC (D := 100) (Nat.le_of_ble_eq_true rfl) hox f4 f5 rfl (Nat.le_of_ble_eq_true rfl)
    (fun r l c9 m9 q => by
      obtain ⟨s', C', ⟨q1, q2⟩, q3, q4, q5, q6⟩ := q
      have e := Sum.inl.inj q3
      subst e
      rw [q4, q5, q1, q6]
      exact hgo s' q2)
    (fun E l c9 m9 q => by
      obtain ⟨s', C', q1, q3, q4⟩ := q
      cases q3)
  exact zW.mono ⟨Nat.le_of_eq (Nat.zero_add _), Nat.le_of_eq (Nat.zero_add _)⟩ h9
theorem l_60 (hg : zGo G Q x y W n i S c) (hz : ∀ j, zin (S j)) (hi : 0 ≤ i ∧ i + 6 ≤ n) (hL : n < 2147483648) (h : Lp lay x y nx W n S C s σ) : zW G KL_law_ 100 Q 3314 (zLL x y W i v5 v6) [] lay (tC x s C) nx (7 + c.1, 473 + c.2) := by
  obtain ⟨kk, u, v', P', h012, hv, hPv, hC, hR⟩ := p_back (G := G) (nx := nx)  h.wd h.re 
  have hk0 : kk = 0 := hPv
  subst hk0
  have hu : u = v' := hv rfl
  subst hu
  refine zW.mono (b' := (0 + c.1, 0 + c.2)) ⟨Nat.add_le_add_right (by decide) _, Nat.add_le_add_right (by decide) _⟩ ?_
  refine z_al1 eL_law__3314 h.wd.xne ?_
  refine z_dst (av := []) (st := []) eL_law__3315 vL_367 hC (Nat.le_of_ble_eq_true rfl) rfl (Nat.le_of_ble_eq_true rfl) h (fun l m s' C' h2 => ?_)
  refine z_al2 eL_law__3318 h2.wd.yne ?_
  refine z_rst (av := []) (st := [zI u]) eL_law__3319 vL_370 hR (Nat.le_of_ble_eq_true rfl) rfl (Nat.le_of_ble_eq_true rfl) h2 (fun C3 τ hk h3 hW => ?_)
  exact z_icmp_eq_rf eL_law__3322 rfl (hg _ _ _ _ _ _ _ h3)
theorem l_61 (hg : zGo G Q x y W n i S c) (hz : ∀ j, zin (S j)) (hi : 0 ≤ i ∧ i + 6 ≤ n) (hL : n < 2147483648) (h : Lp lay x y nx W n S C s σ) : zW G KL_law_ 100 Q 3327 (zLL x y W i v5 v6) [] lay (tC x s C) nx (7 + c.1, 473 + c.2) := by
  obtain ⟨kk, u, v', P', h012, hv, hPv, hC, hR⟩ := p_count (G := G) (nx := nx) (w := S (i + 1)) h.wd h.re (hz _)
  have hk0 : kk = 0 := hPv
  subst hk0
  have hu : u = v' := hv rfl
  subst hu
  refine zW.mono (b' := (0 + c.1, 0 + c.2)) ⟨Nat.add_le_add_right (by decide) _, Nat.add_le_add_right (by decide) _⟩ ?_
  refine z_al1 eL_law__3327 h.wd.xne ?_
  refine z_arg (v := S (i + 1)) eL_law__3328 eL_law__3329 eL_law__3331 eL_law__3332 eL_law__3333 h.sc hL ⟨by omega, by omega⟩ h.st ?_
  refine z_dst (av := [zI (S (i + 1))]) (st := []) eL_law__3334 vL_371 hC (Nat.le_of_ble_eq_true rfl) rfl (Nat.le_of_ble_eq_true rfl) h (fun l m s' C' h2 => ?_)
  refine z_al2 eL_law__3337 h2.wd.yne ?_
  refine z_arg (v := S (i + 1)) eL_law__3338 eL_law__3339 eL_law__3341 eL_law__3342 eL_law__3343 h2.sc hL ⟨by omega, by omega⟩ h2.st ?_
  refine z_rst (av := [zI (S (i + 1))]) (st := [zI u]) eL_law__3344 vL_374 hR (Nat.le_of_ble_eq_true rfl) rfl (Nat.le_of_ble_eq_true rfl) h2 (fun C3 τ hk h3 hW => ?_)
  exact z_icmp_eq_rf eL_law__3347 rfl (hg _ _ _ _ _ _ _ h3)
theorem zand_63 (v : Int) : 0 ≤ zand v 63 ∧ zand v 63 ≤ 63 := by
  have h := zB_of (x := zand v 63) (n := 6) (zand_in _ _) (by decide) (fun k k0 k1 => by rw [zB_and, zB_lt (x := 63) (n := 6) (by decide) (by decide) (by decide) k0, Bool.and_false])
  have e : ((2 ^ 6 : Nat) : Int) = 64 := by decide
  omega
theorem l_all (hg : zGo G Q x y W n i S c) (hz : ∀ j, zin (S j)) (hi : 0 ≤ i ∧ i + 6 ≤ n) (hL : n < 2147483648) (h : Lp lay x y nx W n S C s σ) : zW G KL_law_ 100 Q 33 (zLL x y W i v5 v6) [] lay (tC x s C) nx (7 + c.1, 473 + c.2) := by
  refine z_al0 eL_law__33 (by decide) (z_il4 eL_law__34 (z_sload eL_law__36 h.sc ⟨by omega, by omega⟩ hL ?_))
  refine z_bipush eL_law__37 (by decide) (z_iand eL_law__39 ?_)
  have hr := zand_63 (tC x s C (-5) i)
  have hzr := zand_in (tC x s C (-5) i) 63
  generalize zand (tC x s C (-5) i) 63 = t at hr hzr ⊢
  have ht : t = 0 ∨ t = 1 ∨ t = 2 ∨ t = 3 ∨ t = 4 ∨ t = 5 ∨ t = 6 ∨ t = 7 ∨ t = 8 ∨ t = 9 ∨ t = 10 ∨ t = 11 ∨ t = 12 ∨ t = 13 ∨ t = 14 ∨ t = 15 ∨ t = 16 ∨ t = 17 ∨ t = 18 ∨ t = 19 ∨ t = 20 ∨ t = 21 ∨ t = 22 ∨ t = 23 ∨ t = 24 ∨ t = 25 ∨ t = 26 ∨ t = 27 ∨ t = 28 ∨ t = 29 ∨ t = 30 ∨ t = 31 ∨ t = 32 ∨ t = 33 ∨ t = 34 ∨ t = 35 ∨ t = 36 ∨ t = 37 ∨ t = 38 ∨ t = 39 ∨ t = 40 ∨ t = 41 ∨ t = 42 ∨ t = 43 ∨ t = 44 ∨ t = 45 ∨ t = 46 ∨ t = 47 ∨ t = 48 ∨ t = 49 ∨ t = 50 ∨ t = 51 ∨ t = 52 ∨ t = 53 ∨ t = 54 ∨ t = 55 ∨ t = 56 ∨ t = 57 ∨ t = 58 ∨ t = 59 ∨ t = 60 ∨ t = 61 ∨ 61 < t := by omega
  rcases ht with e | e | e | e | e | e | e | e | e | e | e | e | e | e | e | e | e | e | e | e | e | e | e | e | e | e | e | e | e | e | e | e | e | e | e | e | e | e | e | e | e | e | e | e | e | e | e | e | e | e | e | e | e | e | e | e | e | e | e | e | e | e | e
  · subst e; exact z_tsIn eL_law__40 hzr ⟨by decide, by decide⟩ rfl rfl (l_0 hg hz hi hL h)
  · subst e; exact z_tsIn eL_law__40 hzr ⟨by decide, by decide⟩ rfl rfl (l_1 hg hz hi hL h)
  · subst e; exact z_tsIn eL_law__40 hzr ⟨by decide, by decide⟩ rfl rfl (l_2 hg hz hi hL h)
  · subst e; exact z_tsIn eL_law__40 hzr ⟨by decide, by decide⟩ rfl rfl (l_3 hg hz hi hL h)
  · subst e; exact z_tsIn eL_law__40 hzr ⟨by decide, by decide⟩ rfl rfl (l_4 hg hz hi hL h)
  · subst e; exact z_tsIn eL_law__40 hzr ⟨by decide, by decide⟩ rfl rfl (l_5 hg hz hi hL h)
  · subst e; exact z_tsIn eL_law__40 hzr ⟨by decide, by decide⟩ rfl rfl (l_6 hg hz hi hL h)
  · subst e; exact z_tsIn eL_law__40 hzr ⟨by decide, by decide⟩ rfl rfl (l_7 hg hz hi hL h)
  · subst e; exact z_tsIn eL_law__40 hzr ⟨by decide, by decide⟩ rfl rfl (l_8 hg hz hi hL h)
  · subst e; exact z_tsIn eL_law__40 hzr ⟨by decide, by decide⟩ rfl rfl (l_9 hg hz hi hL h)
  · subst e; exact z_tsIn eL_law__40 hzr ⟨by decide, by decide⟩ rfl rfl (l_10 hg hz hi hL h)
  · subst e; exact z_tsIn eL_law__40 hzr ⟨by decide, by decide⟩ rfl rfl (l_11 hg hz hi hL h)
  · subst e; exact z_tsIn eL_law__40 hzr ⟨by decide, by decide⟩ rfl rfl (l_12 hg hz hi hL h)
  · subst e; exact z_tsIn eL_law__40 hzr ⟨by decide, by decide⟩ rfl rfl (l_13 hg hz hi hL h)
  · subst e; exact z_tsIn eL_law__40 hzr ⟨by decide, by decide⟩ rfl rfl (l_14 hg hz hi hL h)
  · subst e; exact z_tsIn eL_law__40 hzr ⟨by decide, by decide⟩ rfl rfl (l_15 hg hz hi hL h)
  · subst e; exact z_tsIn eL_law__40 hzr ⟨by decide, by decide⟩ rfl rfl (l_16 hg hz hi hL h)
  · subst e; exact z_tsIn eL_law__40 hzr ⟨by decide, by decide⟩ rfl rfl (l_17 hg hz hi hL h)
  · subst e; exact z_tsIn eL_law__40 hzr ⟨by decide, by decide⟩ rfl rfl (l_18 hg hz hi hL h)
  · subst e; exact z_tsIn eL_law__40 hzr ⟨by decide, by decide⟩ rfl rfl (l_19 hg hz hi hL h)
  · subst e; exact z_tsIn eL_law__40 hzr ⟨by decide, by decide⟩ rfl rfl (l_20 hg hz hi hL h)
  · subst e; exact z_tsIn eL_law__40 hzr ⟨by decide, by decide⟩ rfl rfl (l_21 hg hz hi hL h)
  · subst e; exact z_tsIn eL_law__40 hzr ⟨by decide, by decide⟩ rfl rfl (l_22 hg hz hi hL h)
  · subst e; exact z_tsIn eL_law__40 hzr ⟨by decide, by decide⟩ rfl rfl (l_23 hg hz hi hL h)
  · subst e; exact z_tsIn eL_law__40 hzr ⟨by decide, by decide⟩ rfl rfl (l_24 hg hz hi hL h)
  · subst e; exact z_tsIn eL_law__40 hzr ⟨by decide, by decide⟩ rfl rfl (l_25 hg hz hi hL h)
  · subst e; exact z_tsIn eL_law__40 hzr ⟨by decide, by decide⟩ rfl rfl (l_26 hg hz hi hL h)
  · subst e; exact z_tsIn eL_law__40 hzr ⟨by decide, by decide⟩ rfl rfl (l_27 hg hz hi hL h)
  · subst e; exact z_tsIn eL_law__40 hzr ⟨by decide, by decide⟩ rfl rfl (l_28 hg hz hi hL h)
  · subst e; exact z_tsIn eL_law__40 hzr ⟨by decide, by decide⟩ rfl rfl (l_29 hg hz hi hL h)
  · subst e; exact z_tsIn eL_law__40 hzr ⟨by decide, by decide⟩ rfl rfl (l_30 hg hz hi hL h)
  · subst e; exact z_tsIn eL_law__40 hzr ⟨by decide, by decide⟩ rfl rfl (l_31 hg hz hi hL h)
  · subst e; exact z_tsIn eL_law__40 hzr ⟨by decide, by decide⟩ rfl rfl (l_32 hg hz hi hL h)
  · subst e; exact z_tsIn eL_law__40 hzr ⟨by decide, by decide⟩ rfl rfl (l_33 hg hz hi hL h)
  · subst e; exact z_tsIn eL_law__40 hzr ⟨by decide, by decide⟩ rfl rfl (l_34 hg hz hi hL h)
  · subst e; exact z_tsIn eL_law__40 hzr ⟨by decide, by decide⟩ rfl rfl (l_35 hg hz hi hL h)
  · subst e; exact z_tsIn eL_law__40 hzr ⟨by decide, by decide⟩ rfl rfl (l_36 hg hz hi hL h)
  · subst e; exact z_tsIn eL_law__40 hzr ⟨by decide, by decide⟩ rfl rfl (l_37 hg hz hi hL h)
  · subst e; exact z_tsIn eL_law__40 hzr ⟨by decide, by decide⟩ rfl rfl (l_38 hg hz hi hL h)
  · subst e; exact z_tsIn eL_law__40 hzr ⟨by decide, by decide⟩ rfl rfl (l_39 hg hz hi hL h)
  · subst e; exact z_tsIn eL_law__40 hzr ⟨by decide, by decide⟩ rfl rfl (l_40 hg hz hi hL h)
  · subst e; exact z_tsIn eL_law__40 hzr ⟨by decide, by decide⟩ rfl rfl (l_41 hg hz hi hL h)
  · subst e; exact z_tsIn eL_law__40 hzr ⟨by decide, by decide⟩ rfl rfl (l_42 hg hz hi hL h)
  · subst e; exact z_tsIn eL_law__40 hzr ⟨by decide, by decide⟩ rfl rfl (l_43 hg hz hi hL h)
  · subst e; exact z_tsIn eL_law__40 hzr ⟨by decide, by decide⟩ rfl rfl (l_44 hg hz hi hL h)
  · subst e; exact z_tsIn eL_law__40 hzr ⟨by decide, by decide⟩ rfl rfl (l_45 hg hz hi hL h)
  · subst e; exact z_tsIn eL_law__40 hzr ⟨by decide, by decide⟩ rfl rfl (l_46 hg hz hi hL h)
  · subst e; exact z_tsIn eL_law__40 hzr ⟨by decide, by decide⟩ rfl rfl (l_47 hg hz hi hL h)
  · subst e; exact z_tsIn eL_law__40 hzr ⟨by decide, by decide⟩ rfl rfl (l_48 hg hz hi hL h)
  · subst e; exact z_tsIn eL_law__40 hzr ⟨by decide, by decide⟩ rfl rfl (l_49 hg hz hi hL h)
  · subst e; exact z_tsIn eL_law__40 hzr ⟨by decide, by decide⟩ rfl rfl (l_50 hg hz hi hL h)
  · subst e; exact z_tsIn eL_law__40 hzr ⟨by decide, by decide⟩ rfl rfl (l_51 hg hz hi hL h)
  · subst e; exact z_tsIn eL_law__40 hzr ⟨by decide, by decide⟩ rfl rfl (l_52 hg hz hi hL h)
  · subst e; exact z_tsIn eL_law__40 hzr ⟨by decide, by decide⟩ rfl rfl (l_53 hg hz hi hL h)
  · subst e; exact z_tsIn eL_law__40 hzr ⟨by decide, by decide⟩ rfl rfl (l_54 hg hz hi hL h)
  · subst e; exact z_tsIn eL_law__40 hzr ⟨by decide, by decide⟩ rfl rfl (l_55 hg hz hi hL h)
  · subst e; exact z_tsIn eL_law__40 hzr ⟨by decide, by decide⟩ rfl rfl (l_56 hg hz hi hL h)
  · subst e; exact z_tsIn eL_law__40 hzr ⟨by decide, by decide⟩ rfl rfl (l_57 hg hz hi hL h)
  · subst e; exact z_tsIn eL_law__40 hzr ⟨by decide, by decide⟩ rfl rfl (l_58 hg hz hi hL h)
  · subst e; exact z_tsIn eL_law__40 hzr ⟨by decide, by decide⟩ rfl rfl (l_59 hg hz hi hL h)
  · subst e; exact z_tsIn eL_law__40 hzr ⟨by decide, by decide⟩ rfl rfl (l_60 hg hz hi hL h)
  · subst e; exact z_tsIn eL_law__40 hzr ⟨by decide, by decide⟩ rfl rfl (l_61 hg hz hi hL h)
  · exact z_tsOut eL_law__40 hzr (Or.inr e) rfl (zW.mono (b' := c) ⟨Nat.le_add_left _ _, Nat.le_add_left _ _⟩ (hg _ _ _ _ _ _ _ h))
theorem l_loop (hz : ∀ j, zin (S j)) (hL : n < 2147483000) (hn0 : 0 ≤ n) (hQ : ∀ l c m, Q (.inl (some (zI 1))) l c m) : ∀ (m : Nat) (i : Int) (lay : zLay) (nx : Int) (C s σ : zMem) (v5 v6 : zAV), 0 ≤ i → i ≤ n → n ≤ i + 5 + 6 * m → Lp lay x y nx W n S C s σ → zW G KL_law_ 100 Q 23 (zLL x y W i v5 v6) [] lay (tC x s C) nx (7 * m, 473 * m) := by
  intro m
  induction m with
  | zero =>
    intro i lay nx C s σ v5 v6 h0 h1 h2 h
    refine z_il4 eL_law__23 (z_al0 eL_law__25 (by decide) (z_slen eL_law__26 h.sc (z_bipush eL_law__27 (by decide) (z_isub eL_law__29 ?_))))
    refine z_icmp_gt eL_law__30 rfl ⟨by unfold zin; omega, by unfold zin; omega⟩ (fun _ => ?_) (fun z => absurd (by omega) z)
    exact z_iconst eL_law__3358 (z_zreturn eL_law__3359 rfl (Or.inr rfl) (hQ _ _ _))
  | succ m ih =>
    intro i lay nx C s σ v5 v6 h0 h1 h2 h
    refine z_il4 eL_law__23 (z_al0 eL_law__25 (by decide) (z_slen eL_law__26 h.sc (z_bipush eL_law__27 (by decide) (z_isub eL_law__29 ?_))))
    refine z_icmp_gt eL_law__30 rfl ⟨by unfold zin; omega, by unfold zin; omega⟩ (fun _ => ?_) (fun z => ?_)
    · exact z_iconst eL_law__3358 (z_zreturn eL_law__3359 rfl (Or.inr rfl) (hQ _ _ _))
    · refine zW.mono (b' := (7 + (7 * m, 473 * m).1, 473 + (7 * m, 473 * m).2)) ⟨by dsimp only; omega, by dsimp only; omega⟩ (l_all (fun lay' nx' C' s' σ' v5' v6' h' => ?_) hz ⟨h0, by omega⟩ (by omega) h)
      refine zg_iinc eL_law__3352 (fun w _ hw => by cases Option.some.inj (hw.symm.trans (show _ = some (zP W) from rfl)); exact Nat.ne_of_beq_eq_false rfl) rfl (z_goto eL_law__3355 rfl ?_)
      exact ih (i + 6) lay' nx' C' s' σ' v5' v6' (by omega) (by omega) (by omega) h' 
end ZCASES
