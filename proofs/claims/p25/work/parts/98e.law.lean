/-! ===== the law: isLobby ===== -/
set_option maxHeartbeats 4000000 in
set_option maxRecDepth 100000 in
theorem c_L_isLobby (l : Launch) (hl : l.stackTraces = false) (G : GG) (f : Wo) (al : Tg → Nat) (fi : Nat → Nat → Int32) (z : CZ) (hR : RC G al fi z f) (A : Nat → Nat) (lq : Nat → Int64) (la : Nat → Nat → Int32) (hA : LA G A lq la f) (c : Nat) (sc : Nat → Int32) (ar : Nat → Nat → Int32) (hS : SM c fi z sc ar) (hB : BR ar) (P S Q M : Nat → Nat) (hI : IV c (zN z 0) (zN z 1) (zN z 2) ar lq la P S Q M) (x : Nat) (hx : x < 1073741824) : Ct l yL_isLobby wsL_isLobby 15 296 G [.ref (al (15, 0)), .ref (A 0), .ref (A 1), .ref (A 3), .ref (A 6), .int (nI x)] f (fun r f' => r = some (.int 1) ∧ f' = f) 60 360 := by
  refine Ct.of (cc := cL_isLobby) (maxL := 12) (ret := (some .boolean)) (by decide) rfl (Nat.le_of_ble_eq_true rfl) (lv := [(0, _), (1, _), (2, _), (3, _), (4, _), (5, _)]) rfl (by simp [Value.category]) ?_
  intro K X hL hG hr hnm
  subst hL; subst hG
  have h18 := hI.np
  have h60 := hI.nt
  have h30 := hI.nm
  have h2k := hI.cc
  have T : V K f 0 0 445 [(0, .ref (al (15, 0))), (1, .ref (A 0)), (2, .ref (A 1)), (3, .ref (A 3)), (4, .ref (A 6)), (5, .int (nI x)), (6, .int (sumI (fun t => if qB Q t = true then 1 else 0) (zN z 1))), (7, .int (orI (qB Q) (fun t => nI (P t)) (zN z 1))), (8, .int (orI (plB ar) (fun m => allI (ar 11) m) (zN z 2))), (9, .int 1)] [] := by
    by_cases h0 : zN z 1 = 0
    · refine V_aload X rfl dL_isLobby_445 ?_
      refine V_iconst X (v := 2) (by decide) dL_isLobby_447 ?_
      refine V_ald X hA 6 (2) 4 (by decide) rfl (by omega) (hI.c2) dL_isLobby_448 ?_
      refine V_if_ne X (tgt := 456) (by decide) dL_isLobby_449 (fun hc449 => absurd hc449 (fun q => q (by rw [h0]; rfl))) (fun hc449 => ?_)
      refine V_iconst X (v := (-1)) (by decide) dL_isLobby_452 ?_
      refine V_goto X (tgt := 463) (by decide) dL_isLobby_453 ?_
      refine V_istore X (lv' := [(10, _), (0, _), (1, _), (2, _), (3, _), (4, _), (5, _), (6, _), (7, _), (8, _), (9, _)]) (by decide) rfl dL_isLobby_463 ?_
      refine V_aload X rfl dL_isLobby_465 ?_
      refine V_iconst X (v := 2) (by decide) dL_isLobby_467 ?_
      refine V_ald X hA 6 (2) 4 (by decide) rfl (by omega) (hI.c2) dL_isLobby_468 ?_
      refine V_if_ne X (tgt := 476) (by decide) dL_isLobby_469 (fun hc469 => absurd hc469 (fun q => q (by rw [h0]; rfl))) (fun hc469 => ?_)
      refine V_iconst X (v := (-1)) (by decide) dL_isLobby_472 ?_
      refine V_goto X (tgt := 486) (by decide) dL_isLobby_473 ?_
      refine V_istore X (lv' := [(11, _), (10, _), (0, _), (1, _), (2, _), (3, _), (4, _), (5, _), (6, _), (7, _), (8, _), (9, _)]) (by decide) rfl dL_isLobby_486 ?_
      refine V_iload X rfl dL_isLobby_488 ?_
      refine V_if_eq X (tgt := 551) (by decide) dL_isLobby_490 (fun hc490 => absurd hc490 (by decide)) (fun hc490 => ?_)
      refine V_aload_n X rfl dL_isLobby_493 ?_
      refine V_callVp X (rest := _) (c_X5_queued _ _ _ al fi z hR) (hR.2.1 (15, 0) dm15) rfl gL_isLobby_X5_queued rfl hdv_X5_queued (Nat.le_of_ble_eq_true rfl) (Nat.le_of_ble_eq_true rfl) rfl (Nat.le_of_ble_eq_true rfl) dL_isLobby_494 ?_
      refine V_iload X rfl dL_isLobby_497 ?_
      refine V_icmp_ne X (tgt := 551) (by decide) dL_isLobby_499 (fun hc499 => absurd hc499 (fun q => q (SI.cnt hS hI _ (Nat.le_refl _)).symm)) (fun hc499 => ?_)
      refine V_iload X rfl dL_isLobby_502 ?_
      refine V_if_lt X (tgt := 547) (by decide) dL_isLobby_504 (fun hc504 => ?_) (fun hc504 => absurd hc504 (by decide))
      refine V_iconst X (v := 1) (by decide) dL_isLobby_547 ?_
      refine V_goto X (tgt := 552) (by decide) dL_isLobby_548 ?_
      exact V_zret X hr (by decide) (⟨rfl, rfl⟩) dL_isLobby_552
    · have hm1 := (Nat.mod_lt x (Nat.pos_of_ne_zero h0))
      have hm2 := (Nat.mod_lt (x / 7) (Nat.pos_of_ne_zero h0))
      refine V_aload X rfl dL_isLobby_445 ?_
      refine V_iconst X (v := 2) (by decide) dL_isLobby_447 ?_
      refine V_ald X hA 6 (2) 4 (by decide) rfl (by omega) (hI.c2) dL_isLobby_448 ?_
      refine V_if_ne X (tgt := 456) (by decide) dL_isLobby_449 (fun hc449 => ?_) (fun hc449 => absurd hc449 (nI_ne0 (Nat.pos_of_ne_zero h0) (by omega)))
      refine V_iload X rfl dL_isLobby_456 ?_
      refine V_aload X rfl dL_isLobby_458 ?_
      refine V_iconst X (v := 2) (by decide) dL_isLobby_460 ?_
      refine V_ald X hA 6 (2) 4 (by decide) rfl (by omega) (hI.c2) dL_isLobby_461 ?_
      refine V_irem X (nI_ne0 (Nat.pos_of_ne_zero h0) (by omega)) dL_isLobby_462 ?_
      refine V.top (y := nI (x % zN z 1)) (pk_rem (by omega) (Nat.pos_of_ne_zero h0) (by omega)) ?_
      refine V_istore X (lv' := [(10, _), (0, _), (1, _), (2, _), (3, _), (4, _), (5, _), (6, _), (7, _), (8, _), (9, _)]) (by decide) rfl dL_isLobby_463 ?_
      refine V_aload X rfl dL_isLobby_465 ?_
      refine V_iconst X (v := 2) (by decide) dL_isLobby_467 ?_
      refine V_ald X hA 6 (2) 4 (by decide) rfl (by omega) (hI.c2) dL_isLobby_468 ?_
      refine V_if_ne X (tgt := 476) (by decide) dL_isLobby_469 (fun hc469 => ?_) (fun hc469 => absurd hc469 (nI_ne0 (Nat.pos_of_ne_zero h0) (by omega)))
      refine V_iload X rfl dL_isLobby_476 ?_
      refine V_bipush X (v := 7) (by decide) dL_isLobby_478 ?_
      refine V_idiv X (by decide) dL_isLobby_480 ?_
      refine V.top (y := nI (x / 7)) (pk_div (d := 7) (by omega) (by decide) (by decide)) ?_
      refine V_aload X rfl dL_isLobby_481 ?_
      refine V_iconst X (v := 2) (by decide) dL_isLobby_483 ?_
      refine V_ald X hA 6 (2) 4 (by decide) rfl (by omega) (hI.c2) dL_isLobby_484 ?_
      refine V_irem X (nI_ne0 (Nat.pos_of_ne_zero h0) (by omega)) dL_isLobby_485 ?_
      refine V.top (y := nI (x / 7 % zN z 1)) (pk_rem (by omega) (Nat.pos_of_ne_zero h0) (by omega)) ?_
      refine V_istore X (lv' := [(11, _), (10, _), (0, _), (1, _), (2, _), (3, _), (4, _), (5, _), (6, _), (7, _), (8, _), (9, _)]) (by decide) rfl dL_isLobby_486 ?_
      refine V_iload X rfl dL_isLobby_488 ?_
      refine V_if_eq X (tgt := 551) (by decide) dL_isLobby_490 (fun hc490 => absurd hc490 (by decide)) (fun hc490 => ?_)
      refine V_aload_n X rfl dL_isLobby_493 ?_
      refine V_callVp X (rest := _) (c_X5_queued _ _ _ al fi z hR) (hR.2.1 (15, 0) dm15) rfl gL_isLobby_X5_queued rfl hdv_X5_queued (Nat.le_of_ble_eq_true rfl) (Nat.le_of_ble_eq_true rfl) rfl (Nat.le_of_ble_eq_true rfl) dL_isLobby_494 ?_
      refine V_iload X rfl dL_isLobby_497 ?_
      refine V_icmp_ne X (tgt := 551) (by decide) dL_isLobby_499 (fun hc499 => absurd hc499 (fun q => q (SI.cnt hS hI _ (Nat.le_refl _)).symm)) (fun hc499 => ?_)
      refine V_iload X rfl dL_isLobby_502 ?_
      refine V_if_lt X (tgt := 547) (by decide) dL_isLobby_504 (fun hc504 => absurd hc504 (nI_pos (by omega))) (fun hc504 => ?_)
      refine V_aload_n X rfl dL_isLobby_507 ?_
      refine V_iload X rfl dL_isLobby_508 ?_
      refine V_callSp X (rest := _) (c_L_queues _ _ _ A lq la hA (x % zN z 1) (by have := hI.nt; have := (Nat.mod_lt x (Nat.pos_of_ne_zero h0)); omega) (P (x % zN z 1)) (S (x % zN z 1)) (Q (x % zN z 1)) (M (x % zN z 1)) (hI.ok (Nat.mod_lt x (Nat.pos_of_ne_zero h0))) (hI.q (Nat.mod_lt x (Nat.pos_of_ne_zero h0)))) gL_isLobby_L_queues rfl hds_L_queues (Nat.le_of_ble_eq_true rfl) (Nat.le_of_ble_eq_true rfl) rfl (Nat.le_of_ble_eq_true rfl) dL_isLobby_510 ?_
      refine V_if_eq X (tgt := 547) (by decide) dL_isLobby_513 (fun hc513 => ?_) (fun hc513 => ?_)
      · refine V_iconst X (v := 1) (by decide) dL_isLobby_547 ?_
        refine V_goto X (tgt := 552) (by decide) dL_isLobby_548 ?_
        exact V_zret X hr (by decide) (⟨rfl, rfl⟩) dL_isLobby_552
      · refine V_aload_n X rfl dL_isLobby_516 ?_
        refine V_iload X rfl dL_isLobby_517 ?_
        refine V_callSp X (rest := _) (c_L_queues _ _ _ A lq la hA (x / 7 % zN z 1) (by have := hI.nt; have := (Nat.mod_lt (x / 7) (Nat.pos_of_ne_zero h0)); omega) (P (x / 7 % zN z 1)) (S (x / 7 % zN z 1)) (Q (x / 7 % zN z 1)) (M (x / 7 % zN z 1)) (hI.ok (Nat.mod_lt (x / 7) (Nat.pos_of_ne_zero h0))) (hI.q (Nat.mod_lt (x / 7) (Nat.pos_of_ne_zero h0)))) gL_isLobby_L_queues rfl hds_L_queues (Nat.le_of_ble_eq_true rfl) (Nat.le_of_ble_eq_true rfl) rfl (Nat.le_of_ble_eq_true rfl) dL_isLobby_519 ?_
        refine V_if_eq X (tgt := 547) (by decide) dL_isLobby_522 (fun hc522 => ?_) (fun hc522 => ?_)
        · refine V_iconst X (v := 1) (by decide) dL_isLobby_547 ?_
          refine V_goto X (tgt := 552) (by decide) dL_isLobby_548 ?_
          exact V_zret X hr (by decide) (⟨rfl, rfl⟩) dL_isLobby_552
        · refine V_aload_n X rfl dL_isLobby_525 ?_
          refine V_iload X rfl dL_isLobby_526 ?_
          refine V_iload X rfl dL_isLobby_528 ?_
          refine V_callVp X (rest := _) (c_X5_fit_t _ _ _ al fi z hR (x % zN z 1) (x / 7 % zN z 1) (Nat.mod_lt x (Nat.pos_of_ne_zero h0)) (Nat.mod_lt (x / 7) (Nat.pos_of_ne_zero h0)) ((SI.q1 hS hI (Nat.mod_lt x (Nat.pos_of_ne_zero h0))).mp (of_decide_eq_true (bI_ne0 hc513))) ((SI.q1 hS hI (Nat.mod_lt (x / 7) (Nat.pos_of_ne_zero h0))).mp (of_decide_eq_true (bI_ne0 hc522)))) (hR.2.1 (15, 0) dm15) rfl gL_isLobby_X5_fit rfl hdv_X5_fit (Nat.le_of_ble_eq_true rfl) (Nat.le_of_ble_eq_true rfl) rfl (Nat.le_of_ble_eq_true rfl) dL_isLobby_530 ?_
          refine V_aload_n X rfl dL_isLobby_533 ?_
          refine V_aload_n X rfl dL_isLobby_534 ?_
          refine V_aload X rfl dL_isLobby_535 ?_
          refine V_iload X rfl dL_isLobby_537 ?_
          refine V_iload X rfl dL_isLobby_539 ?_
          refine V_callSp X (rest := _) (c_L_fit _ _ _ al fi z hR A lq la hA (nI c) hI.c0 (x % zN z 1) (by omega) (P _) (S _) (Q _) (M _) (hI.ok (Nat.mod_lt x (Nat.pos_of_ne_zero h0))) (hI.q (Nat.mod_lt x (Nat.pos_of_ne_zero h0))) (SI.in hS hI (Nat.mod_lt x (Nat.pos_of_ne_zero h0))) (SI.len hS hI (Nat.mod_lt x (Nat.pos_of_ne_zero h0))).1 (x / 7 % zN z 1) (by omega) (P _) (S _) (Q _) (M _) (hI.ok (Nat.mod_lt (x / 7) (Nat.pos_of_ne_zero h0))) (hI.q (Nat.mod_lt (x / 7) (Nat.pos_of_ne_zero h0))) (SI.in hS hI (Nat.mod_lt (x / 7) (Nat.pos_of_ne_zero h0))) (SI.len hS hI (Nat.mod_lt (x / 7) (Nat.pos_of_ne_zero h0))).1) gL_isLobby_L_fit rfl hds_L_fit (Nat.le_of_ble_eq_true rfl) (Nat.le_of_ble_eq_true rfl) rfl (Nat.le_of_ble_eq_true rfl) dL_isLobby_541 ?_
          refine V_icmp_ne X (tgt := 551) (by decide) dL_isLobby_544 (fun hc544 => absurd hc544 (fun q => q (congrArg bI (SI.fit hS hI (Nat.mod_lt x (Nat.pos_of_ne_zero h0)) (Nat.mod_lt (x / 7) (Nat.pos_of_ne_zero h0)))).symm)) (fun hc544 => ?_)
          refine V_iconst X (v := 1) (by decide) dL_isLobby_547 ?_
          refine V_goto X (tgt := 552) (by decide) dL_isLobby_548 ?_
          exact V_zret X hr (by decide) (⟨rfl, rfl⟩) dL_isLobby_552
  have L3 : ∀ (n i : Nat), zN z 0 - i = n → i ≤ zN z 0 → V K f 0 0 284 [(0, .ref (al (15, 0))), (1, .ref (A 0)), (2, .ref (A 1)), (3, .ref (A 3)), (4, .ref (A 6)), (5, .int (nI x)), (6, .int (sumI (fun t => if qB Q t = true then 1 else 0) (zN z 1))), (7, .int (orI (qB Q) (fun t => nI (P t)) (zN z 1))), (8, .int (orI (plB ar) (fun m => allI (ar 11) m) (zN z 2))), (9, .int 1), (10, .int (nI i))] [] := by
    intro n
    induction n using Nat.strongRecOn with
    | ind n ih =>
      intro i hn hi
      refine V_iload X rfl dL_isLobby_284 ?_
      refine V_aload X rfl dL_isLobby_286 ?_
      refine V_iconst X (v := 1) (by decide) dL_isLobby_288 ?_
      refine V_ald X hA 6 (1) 4 (by decide) rfl (by omega) (hI.c1) dL_isLobby_289 ?_
      refine V_icmp_ge X (tgt := 445) (by decide) dL_isLobby_290 (fun hc290 => ?_) (fun hc290 => ?_)
      · refine V.lvs (lv' := [(0, _), (1, _), (2, _), (3, _), (4, _), (5, _), (6, _), (7, _), (8, _), (9, _)]) rfl ?_
        exact T
      · have hlt := lim_lt (N := zN z 0) rfl hc290 hi (by omega)
        obtain ⟨hr2, hr3, ⟨R, hR1, hR2⟩, D, hD1, hD2, hD3⟩ := hI.pl hlt
        obtain ⟨e1, e2, e3, e4, e6, e5, ⟨Lv, hL1, hL2⟩, -⟩ := hS.pl hlt
        obtain ⟨-, W, hW1, hW2⟩ := hB i
        have hcs : hsI (orI (qB Q) (fun t => nI (P t)) (zN z 1)) (nI i) = true ∨ (hsI (orI (qB Q) (fun t => nI (P t)) (zN z 1)) (nI i) = false ∧ hsI (orI (plB ar) (fun m => allI (ar 11) m) (zN z 2)) (nI i) = true) ∨ (hsI (orI (qB Q) (fun t => nI (P t)) (zN z 1)) (nI i) = false ∧ hsI (orI (plB ar) (fun m => allI (ar 11) m) (zN z 2)) (nI i) = false) := by cases hsI (orI (qB Q) (fun t => nI (P t)) (zN z 1)) (nI i) <;> cases hsI (orI (plB ar) (fun m => allI (ar 11) m) (zN z 2)) (nI i) <;> simp
        rcases hcs with h1 | ⟨h1, h2⟩ | ⟨h1, h2⟩
        · refine V_iload X rfl dL_isLobby_293 ?_
          refine V_if_eq X (tgt := 436) (by decide) dL_isLobby_295 (fun hc295 => absurd hc295 (by decide)) (fun hc295 => ?_)
          refine V_aload_n X rfl dL_isLobby_298 ?_
          refine V_iload X rfl dL_isLobby_299 ?_
          refine V_callVp X (rest := _) (c_X5_state_t _ _ _ al fi z hR i hlt) (hR.2.1 (15, 0) dm15) rfl gL_isLobby_X5_state rfl hdv_X5_state (Nat.le_of_ble_eq_true rfl) (Nat.le_of_ble_eq_true rfl) rfl (Nat.le_of_ble_eq_true rfl) dL_isLobby_301 ?_
          refine V_iload X rfl dL_isLobby_304 ?_
          refine V_iload X rfl dL_isLobby_306 ?_
          refine V_callSp X (rest := _) (c_L_has _ _ _ _ _) gL_isLobby_L_has rfl hds_L_has (Nat.le_of_ble_eq_true rfl) (Nat.le_of_ble_eq_true rfl) rfl (Nat.le_of_ble_eq_true rfl) dL_isLobby_308 ?_
          refine V.top (y := 1) (by rw [h1]; rfl) ?_
          refine V_if_eq X (tgt := 318) (by decide) dL_isLobby_311 (fun hc311 => absurd hc311 (by decide)) (fun hc311 => ?_)
          refine V_iconst X (v := 1) (by decide) dL_isLobby_314 ?_
          refine V_goto X (tgt := 333) (by decide) dL_isLobby_315 ?_
          refine V_icmp_ne X (tgt := 436) (by decide) dL_isLobby_333 (fun hc333 => absurd hc333 (fun q => q (SI.st1 hS hI hlt h1))) (fun hc333 => ?_)
          refine V_aload_n X rfl dL_isLobby_336 ?_
          refine V_iload X rfl dL_isLobby_337 ?_
          refine V_callVp X (rest := _) (c_X5_rating_t _ _ _ al fi z hR i hlt) (hR.2.1 (15, 0) dm15) rfl gL_isLobby_X5_rating rfl hdv_X5_rating (Nat.le_of_ble_eq_true rfl) (Nat.le_of_ble_eq_true rfl) rfl (Nat.le_of_ble_eq_true rfl) dL_isLobby_339 ?_
          refine V.top (y := nI R) (e1.trans hR2) ?_
          refine V_if_lt X (tgt := 436) (by decide) dL_isLobby_342 (fun hc342 => absurd hc342 (nI_pos (by omega))) (fun hc342 => ?_)
          refine V_aload_n X rfl dL_isLobby_345 ?_
          refine V_iload X rfl dL_isLobby_346 ?_
          refine V_callVp X (rest := _) (c_X5_rating_t _ _ _ al fi z hR i hlt) (hR.2.1 (15, 0) dm15) rfl gL_isLobby_X5_rating rfl hdv_X5_rating (Nat.le_of_ble_eq_true rfl) (Nat.le_of_ble_eq_true rfl) rfl (Nat.le_of_ble_eq_true rfl) dL_isLobby_348 ?_
          refine V.top (y := nI R) (e1.trans hR2) ?_
          refine V_sipush X (v := 4000) (by decide) dL_isLobby_351 ?_
          refine V_icmp_gt X (tgt := 436) (by decide) dL_isLobby_354 (fun hc354 => absurd hc354 (Int32.not_lt.mpr (nI_le (a := R) (b := 4000) hR1 (by decide)))) (fun hc354 => ?_)
          refine V_aload_n X rfl dL_isLobby_357 ?_
          refine V_iload X rfl dL_isLobby_358 ?_
          refine V_callVp X (rest := _) (c_X5_uncertainty_t _ _ _ al fi z hR i hlt) (hR.2.1 (15, 0) dm15) rfl gL_isLobby_X5_uncertainty rfl hdv_X5_uncertainty (Nat.le_of_ble_eq_true rfl) (Nat.le_of_ble_eq_true rfl) rfl (Nat.le_of_ble_eq_true rfl) dL_isLobby_360 ?_
          refine V.top (y := nI D) (e2.trans hD3) ?_
          refine V_bipush X (v := 50) (by decide) dL_isLobby_363 ?_
          refine V_icmp_lt X (tgt := 436) (by decide) dL_isLobby_365 (fun hc365 => absurd hc365 (Int32.not_lt.mpr (nI_le (a := 50) (b := D) hD1 (by omega)))) (fun hc365 => ?_)
          refine V_aload_n X rfl dL_isLobby_368 ?_
          refine V_iload X rfl dL_isLobby_369 ?_
          refine V_callVp X (rest := _) (c_X5_uncertainty_t _ _ _ al fi z hR i hlt) (hR.2.1 (15, 0) dm15) rfl gL_isLobby_X5_uncertainty rfl hdv_X5_uncertainty (Nat.le_of_ble_eq_true rfl) (Nat.le_of_ble_eq_true rfl) rfl (Nat.le_of_ble_eq_true rfl) dL_isLobby_371 ?_
          refine V.top (y := nI D) (e2.trans hD3) ?_
          refine V_sipush X (v := 350) (by decide) dL_isLobby_374 ?_
          refine V_icmp_gt X (tgt := 436) (by decide) dL_isLobby_377 (fun hc377 => absurd hc377 (Int32.not_lt.mpr (nI_le (a := D) (b := 350) hD2 (by decide)))) (fun hc377 => ?_)
          refine V_aload_n X rfl dL_isLobby_380 ?_
          refine V_iload X rfl dL_isLobby_381 ?_
          refine V_callVp X (rest := _) (c_X5_level_t _ _ _ al fi z hR i hlt) (hR.2.1 (15, 0) dm15) rfl gL_isLobby_X5_level rfl hdv_X5_level (Nat.le_of_ble_eq_true rfl) (Nat.le_of_ble_eq_true rfl) rfl (Nat.le_of_ble_eq_true rfl) dL_isLobby_383 ?_
          refine V.top (y := nI Lv) (hL2) ?_
          refine V_if_lt X (tgt := 436) (by decide) dL_isLobby_386 (fun hc386 => absurd hc386 (nI_pos (by omega))) (fun hc386 => ?_)
          refine V_aload_n X rfl dL_isLobby_389 ?_
          refine V_iload X rfl dL_isLobby_390 ?_
          refine V_callVp X (rest := _) (c_X5_level_t _ _ _ al fi z hR i hlt) (hR.2.1 (15, 0) dm15) rfl gL_isLobby_X5_level rfl hdv_X5_level (Nat.le_of_ble_eq_true rfl) (Nat.le_of_ble_eq_true rfl) rfl (Nat.le_of_ble_eq_true rfl) dL_isLobby_392 ?_
          refine V.top (y := nI Lv) (hL2) ?_
          refine V_iconst X (v := 5) (by decide) dL_isLobby_395 ?_
          refine V_icmp_gt X (tgt := 436) (by decide) dL_isLobby_396 (fun hc396 => absurd hc396 (Int32.not_lt.mpr (nI_le (a := Lv) (b := 5) hL1 (by decide)))) (fun hc396 => ?_)
          refine V_aload_n X rfl dL_isLobby_399 ?_
          refine V_iload X rfl dL_isLobby_400 ?_
          refine V_callVp X (rest := _) (c_X5_barred_t _ _ _ al fi z hR i hlt) (hR.2.1 (15, 0) dm15) rfl gL_isLobby_X5_barred rfl hdv_X5_barred (Nat.le_of_ble_eq_true rfl) (Nat.le_of_ble_eq_true rfl) rfl (Nat.le_of_ble_eq_true rfl) dL_isLobby_402 ?_
          refine V.top (y := if (0 : Int32) < nI W - nI c then nI W - nI c else 0) (by rw [e6, hW2, hS.ck]) ?_
          refine V_aload_n X rfl dL_isLobby_405 ?_
          refine V_iload X rfl dL_isLobby_406 ?_
          refine V_ald X hA 3 (i) 18 (by decide) rfl (by omega) (hr3.trans hW2) dL_isLobby_408 ?_
          refine V_aload X rfl dL_isLobby_409 ?_
          refine V_iconst X (v := 0) (by decide) dL_isLobby_411 ?_
          refine V_ald X hA 6 (0) 4 (by decide) rfl (by omega) (hI.c0) dL_isLobby_412 ?_
          refine V_icmp_le X (tgt := 428) (by decide) dL_isLobby_413 (fun hc413 => ?_) (fun hc413 => ?_)
          · refine V_iconst X (v := 0) (by decide) dL_isLobby_428 ?_
            refine V_icmp_ne X (tgt := 436) (by decide) dL_isLobby_429 (fun hc429 => absurd hc429 (fun q => q (by rw [SI.bar hI hW1, if_pos hc413]))) (fun hc429 => ?_)
            refine V_iconst X (v := 1) (by decide) dL_isLobby_432 ?_
            refine V_goto X (tgt := 437) (by decide) dL_isLobby_433 ?_
            refine V_istore X (lv' := [(9, _), (0, _), (1, _), (2, _), (3, _), (4, _), (5, _), (6, _), (7, _), (8, _), (10, _)]) (by decide) rfl dL_isLobby_437 ?_
            refine V_iinc X (lv' := [(10, _), (9, _), (0, _), (1, _), (2, _), (3, _), (4, _), (5, _), (6, _), (7, _), (8, _)]) (v := nI (i + 1)) rfl (nI_1 _) (by decide) rfl dL_isLobby_439 ?_
            refine V_goto X (tgt := 284) (by decide) dL_isLobby_442 ?_
            refine V.lvs (lv' := [(0, _), (1, _), (2, _), (3, _), (4, _), (5, _), (6, _), (7, _), (8, _), (9, _), (10, _)]) rfl ?_
            exact ih (zN z 0 - (i + 1)) (by omega) (i + 1) rfl (by omega)
          · refine V_aload_n X rfl dL_isLobby_416 ?_
            refine V_iload X rfl dL_isLobby_417 ?_
            refine V_ald X hA 3 (i) 18 (by decide) rfl (by omega) (hr3.trans hW2) dL_isLobby_419 ?_
            refine V_aload X rfl dL_isLobby_420 ?_
            refine V_iconst X (v := 0) (by decide) dL_isLobby_422 ?_
            refine V_ald X hA 6 (0) 4 (by decide) rfl (by omega) (hI.c0) dL_isLobby_423 ?_
            refine V_isub X dL_isLobby_424 ?_
            refine V_goto X (tgt := 429) (by decide) dL_isLobby_425 ?_
            refine V_icmp_ne X (tgt := 436) (by decide) dL_isLobby_429 (fun hc429 => absurd hc429 (fun q => q (by rw [SI.bar hI hW1, if_neg hc413]))) (fun hc429 => ?_)
            refine V_iconst X (v := 1) (by decide) dL_isLobby_432 ?_
            refine V_goto X (tgt := 437) (by decide) dL_isLobby_433 ?_
            refine V_istore X (lv' := [(9, _), (0, _), (1, _), (2, _), (3, _), (4, _), (5, _), (6, _), (7, _), (8, _), (10, _)]) (by decide) rfl dL_isLobby_437 ?_
            refine V_iinc X (lv' := [(10, _), (9, _), (0, _), (1, _), (2, _), (3, _), (4, _), (5, _), (6, _), (7, _), (8, _)]) (v := nI (i + 1)) rfl (nI_1 _) (by decide) rfl dL_isLobby_439 ?_
            refine V_goto X (tgt := 284) (by decide) dL_isLobby_442 ?_
            refine V.lvs (lv' := [(0, _), (1, _), (2, _), (3, _), (4, _), (5, _), (6, _), (7, _), (8, _), (9, _), (10, _)]) rfl ?_
            exact ih (zN z 0 - (i + 1)) (by omega) (i + 1) rfl (by omega)
        · refine V_iload X rfl dL_isLobby_293 ?_
          refine V_if_eq X (tgt := 436) (by decide) dL_isLobby_295 (fun hc295 => absurd hc295 (by decide)) (fun hc295 => ?_)
          refine V_aload_n X rfl dL_isLobby_298 ?_
          refine V_iload X rfl dL_isLobby_299 ?_
          refine V_callVp X (rest := _) (c_X5_state_t _ _ _ al fi z hR i hlt) (hR.2.1 (15, 0) dm15) rfl gL_isLobby_X5_state rfl hdv_X5_state (Nat.le_of_ble_eq_true rfl) (Nat.le_of_ble_eq_true rfl) rfl (Nat.le_of_ble_eq_true rfl) dL_isLobby_301 ?_
          refine V_iload X rfl dL_isLobby_304 ?_
          refine V_iload X rfl dL_isLobby_306 ?_
          refine V_callSp X (rest := _) (c_L_has _ _ _ _ _) gL_isLobby_L_has rfl hds_L_has (Nat.le_of_ble_eq_true rfl) (Nat.le_of_ble_eq_true rfl) rfl (Nat.le_of_ble_eq_true rfl) dL_isLobby_308 ?_
          refine V.top (y := 0) (by rw [h1]; rfl) ?_
          refine V_if_eq X (tgt := 318) (by decide) dL_isLobby_311 (fun hc311 => ?_) (fun hc311 => absurd hc311 (by decide))
          refine V_iload X rfl dL_isLobby_318 ?_
          refine V_iload X rfl dL_isLobby_320 ?_
          refine V_callSp X (rest := _) (c_L_has _ _ _ _ _) gL_isLobby_L_has rfl hds_L_has (Nat.le_of_ble_eq_true rfl) (Nat.le_of_ble_eq_true rfl) rfl (Nat.le_of_ble_eq_true rfl) dL_isLobby_322 ?_
          refine V.top (y := 1) (by rw [h2]; rfl) ?_
          refine V_if_eq X (tgt := 332) (by decide) dL_isLobby_325 (fun hc325 => absurd hc325 (by decide)) (fun hc325 => ?_)
          refine V_iconst X (v := 2) (by decide) dL_isLobby_328 ?_
          refine V_goto X (tgt := 333) (by decide) dL_isLobby_329 ?_
          refine V_icmp_ne X (tgt := 436) (by decide) dL_isLobby_333 (fun hc333 => absurd hc333 (fun q => q (SI.st2 hS hlt h2))) (fun hc333 => ?_)
          refine V_aload_n X rfl dL_isLobby_336 ?_
          refine V_iload X rfl dL_isLobby_337 ?_
          refine V_callVp X (rest := _) (c_X5_rating_t _ _ _ al fi z hR i hlt) (hR.2.1 (15, 0) dm15) rfl gL_isLobby_X5_rating rfl hdv_X5_rating (Nat.le_of_ble_eq_true rfl) (Nat.le_of_ble_eq_true rfl) rfl (Nat.le_of_ble_eq_true rfl) dL_isLobby_339 ?_
          refine V.top (y := nI R) (e1.trans hR2) ?_
          refine V_if_lt X (tgt := 436) (by decide) dL_isLobby_342 (fun hc342 => absurd hc342 (nI_pos (by omega))) (fun hc342 => ?_)
          refine V_aload_n X rfl dL_isLobby_345 ?_
          refine V_iload X rfl dL_isLobby_346 ?_
          refine V_callVp X (rest := _) (c_X5_rating_t _ _ _ al fi z hR i hlt) (hR.2.1 (15, 0) dm15) rfl gL_isLobby_X5_rating rfl hdv_X5_rating (Nat.le_of_ble_eq_true rfl) (Nat.le_of_ble_eq_true rfl) rfl (Nat.le_of_ble_eq_true rfl) dL_isLobby_348 ?_
          refine V.top (y := nI R) (e1.trans hR2) ?_
          refine V_sipush X (v := 4000) (by decide) dL_isLobby_351 ?_
          refine V_icmp_gt X (tgt := 436) (by decide) dL_isLobby_354 (fun hc354 => absurd hc354 (Int32.not_lt.mpr (nI_le (a := R) (b := 4000) hR1 (by decide)))) (fun hc354 => ?_)
          refine V_aload_n X rfl dL_isLobby_357 ?_
          refine V_iload X rfl dL_isLobby_358 ?_
          refine V_callVp X (rest := _) (c_X5_uncertainty_t _ _ _ al fi z hR i hlt) (hR.2.1 (15, 0) dm15) rfl gL_isLobby_X5_uncertainty rfl hdv_X5_uncertainty (Nat.le_of_ble_eq_true rfl) (Nat.le_of_ble_eq_true rfl) rfl (Nat.le_of_ble_eq_true rfl) dL_isLobby_360 ?_
          refine V.top (y := nI D) (e2.trans hD3) ?_
          refine V_bipush X (v := 50) (by decide) dL_isLobby_363 ?_
          refine V_icmp_lt X (tgt := 436) (by decide) dL_isLobby_365 (fun hc365 => absurd hc365 (Int32.not_lt.mpr (nI_le (a := 50) (b := D) hD1 (by omega)))) (fun hc365 => ?_)
          refine V_aload_n X rfl dL_isLobby_368 ?_
          refine V_iload X rfl dL_isLobby_369 ?_
          refine V_callVp X (rest := _) (c_X5_uncertainty_t _ _ _ al fi z hR i hlt) (hR.2.1 (15, 0) dm15) rfl gL_isLobby_X5_uncertainty rfl hdv_X5_uncertainty (Nat.le_of_ble_eq_true rfl) (Nat.le_of_ble_eq_true rfl) rfl (Nat.le_of_ble_eq_true rfl) dL_isLobby_371 ?_
          refine V.top (y := nI D) (e2.trans hD3) ?_
          refine V_sipush X (v := 350) (by decide) dL_isLobby_374 ?_
          refine V_icmp_gt X (tgt := 436) (by decide) dL_isLobby_377 (fun hc377 => absurd hc377 (Int32.not_lt.mpr (nI_le (a := D) (b := 350) hD2 (by decide)))) (fun hc377 => ?_)
          refine V_aload_n X rfl dL_isLobby_380 ?_
          refine V_iload X rfl dL_isLobby_381 ?_
          refine V_callVp X (rest := _) (c_X5_level_t _ _ _ al fi z hR i hlt) (hR.2.1 (15, 0) dm15) rfl gL_isLobby_X5_level rfl hdv_X5_level (Nat.le_of_ble_eq_true rfl) (Nat.le_of_ble_eq_true rfl) rfl (Nat.le_of_ble_eq_true rfl) dL_isLobby_383 ?_
          refine V.top (y := nI Lv) (hL2) ?_
          refine V_if_lt X (tgt := 436) (by decide) dL_isLobby_386 (fun hc386 => absurd hc386 (nI_pos (by omega))) (fun hc386 => ?_)
          refine V_aload_n X rfl dL_isLobby_389 ?_
          refine V_iload X rfl dL_isLobby_390 ?_
          refine V_callVp X (rest := _) (c_X5_level_t _ _ _ al fi z hR i hlt) (hR.2.1 (15, 0) dm15) rfl gL_isLobby_X5_level rfl hdv_X5_level (Nat.le_of_ble_eq_true rfl) (Nat.le_of_ble_eq_true rfl) rfl (Nat.le_of_ble_eq_true rfl) dL_isLobby_392 ?_
          refine V.top (y := nI Lv) (hL2) ?_
          refine V_iconst X (v := 5) (by decide) dL_isLobby_395 ?_
          refine V_icmp_gt X (tgt := 436) (by decide) dL_isLobby_396 (fun hc396 => absurd hc396 (Int32.not_lt.mpr (nI_le (a := Lv) (b := 5) hL1 (by decide)))) (fun hc396 => ?_)
          refine V_aload_n X rfl dL_isLobby_399 ?_
          refine V_iload X rfl dL_isLobby_400 ?_
          refine V_callVp X (rest := _) (c_X5_barred_t _ _ _ al fi z hR i hlt) (hR.2.1 (15, 0) dm15) rfl gL_isLobby_X5_barred rfl hdv_X5_barred (Nat.le_of_ble_eq_true rfl) (Nat.le_of_ble_eq_true rfl) rfl (Nat.le_of_ble_eq_true rfl) dL_isLobby_402 ?_
          refine V.top (y := if (0 : Int32) < nI W - nI c then nI W - nI c else 0) (by rw [e6, hW2, hS.ck]) ?_
          refine V_aload_n X rfl dL_isLobby_405 ?_
          refine V_iload X rfl dL_isLobby_406 ?_
          refine V_ald X hA 3 (i) 18 (by decide) rfl (by omega) (hr3.trans hW2) dL_isLobby_408 ?_
          refine V_aload X rfl dL_isLobby_409 ?_
          refine V_iconst X (v := 0) (by decide) dL_isLobby_411 ?_
          refine V_ald X hA 6 (0) 4 (by decide) rfl (by omega) (hI.c0) dL_isLobby_412 ?_
          refine V_icmp_le X (tgt := 428) (by decide) dL_isLobby_413 (fun hc413 => ?_) (fun hc413 => ?_)
          · refine V_iconst X (v := 0) (by decide) dL_isLobby_428 ?_
            refine V_icmp_ne X (tgt := 436) (by decide) dL_isLobby_429 (fun hc429 => absurd hc429 (fun q => q (by rw [SI.bar hI hW1, if_pos hc413]))) (fun hc429 => ?_)
            refine V_iconst X (v := 1) (by decide) dL_isLobby_432 ?_
            refine V_goto X (tgt := 437) (by decide) dL_isLobby_433 ?_
            refine V_istore X (lv' := [(9, _), (0, _), (1, _), (2, _), (3, _), (4, _), (5, _), (6, _), (7, _), (8, _), (10, _)]) (by decide) rfl dL_isLobby_437 ?_
            refine V_iinc X (lv' := [(10, _), (9, _), (0, _), (1, _), (2, _), (3, _), (4, _), (5, _), (6, _), (7, _), (8, _)]) (v := nI (i + 1)) rfl (nI_1 _) (by decide) rfl dL_isLobby_439 ?_
            refine V_goto X (tgt := 284) (by decide) dL_isLobby_442 ?_
            refine V.lvs (lv' := [(0, _), (1, _), (2, _), (3, _), (4, _), (5, _), (6, _), (7, _), (8, _), (9, _), (10, _)]) rfl ?_
            exact ih (zN z 0 - (i + 1)) (by omega) (i + 1) rfl (by omega)
          · refine V_aload_n X rfl dL_isLobby_416 ?_
            refine V_iload X rfl dL_isLobby_417 ?_
            refine V_ald X hA 3 (i) 18 (by decide) rfl (by omega) (hr3.trans hW2) dL_isLobby_419 ?_
            refine V_aload X rfl dL_isLobby_420 ?_
            refine V_iconst X (v := 0) (by decide) dL_isLobby_422 ?_
            refine V_ald X hA 6 (0) 4 (by decide) rfl (by omega) (hI.c0) dL_isLobby_423 ?_
            refine V_isub X dL_isLobby_424 ?_
            refine V_goto X (tgt := 429) (by decide) dL_isLobby_425 ?_
            refine V_icmp_ne X (tgt := 436) (by decide) dL_isLobby_429 (fun hc429 => absurd hc429 (fun q => q (by rw [SI.bar hI hW1, if_neg hc413]))) (fun hc429 => ?_)
            refine V_iconst X (v := 1) (by decide) dL_isLobby_432 ?_
            refine V_goto X (tgt := 437) (by decide) dL_isLobby_433 ?_
            refine V_istore X (lv' := [(9, _), (0, _), (1, _), (2, _), (3, _), (4, _), (5, _), (6, _), (7, _), (8, _), (10, _)]) (by decide) rfl dL_isLobby_437 ?_
            refine V_iinc X (lv' := [(10, _), (9, _), (0, _), (1, _), (2, _), (3, _), (4, _), (5, _), (6, _), (7, _), (8, _)]) (v := nI (i + 1)) rfl (nI_1 _) (by decide) rfl dL_isLobby_439 ?_
            refine V_goto X (tgt := 284) (by decide) dL_isLobby_442 ?_
            refine V.lvs (lv' := [(0, _), (1, _), (2, _), (3, _), (4, _), (5, _), (6, _), (7, _), (8, _), (9, _), (10, _)]) rfl ?_
            exact ih (zN z 0 - (i + 1)) (by omega) (i + 1) rfl (by omega)
        · refine V_iload X rfl dL_isLobby_293 ?_
          refine V_if_eq X (tgt := 436) (by decide) dL_isLobby_295 (fun hc295 => absurd hc295 (by decide)) (fun hc295 => ?_)
          refine V_aload_n X rfl dL_isLobby_298 ?_
          refine V_iload X rfl dL_isLobby_299 ?_
          refine V_callVp X (rest := _) (c_X5_state_t _ _ _ al fi z hR i hlt) (hR.2.1 (15, 0) dm15) rfl gL_isLobby_X5_state rfl hdv_X5_state (Nat.le_of_ble_eq_true rfl) (Nat.le_of_ble_eq_true rfl) rfl (Nat.le_of_ble_eq_true rfl) dL_isLobby_301 ?_
          refine V_iload X rfl dL_isLobby_304 ?_
          refine V_iload X rfl dL_isLobby_306 ?_
          refine V_callSp X (rest := _) (c_L_has _ _ _ _ _) gL_isLobby_L_has rfl hds_L_has (Nat.le_of_ble_eq_true rfl) (Nat.le_of_ble_eq_true rfl) rfl (Nat.le_of_ble_eq_true rfl) dL_isLobby_308 ?_
          refine V.top (y := 0) (by rw [h1]; rfl) ?_
          refine V_if_eq X (tgt := 318) (by decide) dL_isLobby_311 (fun hc311 => ?_) (fun hc311 => absurd hc311 (by decide))
          refine V_iload X rfl dL_isLobby_318 ?_
          refine V_iload X rfl dL_isLobby_320 ?_
          refine V_callSp X (rest := _) (c_L_has _ _ _ _ _) gL_isLobby_L_has rfl hds_L_has (Nat.le_of_ble_eq_true rfl) (Nat.le_of_ble_eq_true rfl) rfl (Nat.le_of_ble_eq_true rfl) dL_isLobby_322 ?_
          refine V.top (y := 0) (by rw [h2]; rfl) ?_
          refine V_if_eq X (tgt := 332) (by decide) dL_isLobby_325 (fun hc325 => ?_) (fun hc325 => absurd hc325 (by decide))
          refine V_iconst X (v := 0) (by decide) dL_isLobby_332 ?_
          refine V_icmp_ne X (tgt := 436) (by decide) dL_isLobby_333 (fun hc333 => absurd hc333 (fun q => q (SI.st0 hS hI hlt h1 h2))) (fun hc333 => ?_)
          refine V_aload_n X rfl dL_isLobby_336 ?_
          refine V_iload X rfl dL_isLobby_337 ?_
          refine V_callVp X (rest := _) (c_X5_rating_t _ _ _ al fi z hR i hlt) (hR.2.1 (15, 0) dm15) rfl gL_isLobby_X5_rating rfl hdv_X5_rating (Nat.le_of_ble_eq_true rfl) (Nat.le_of_ble_eq_true rfl) rfl (Nat.le_of_ble_eq_true rfl) dL_isLobby_339 ?_
          refine V.top (y := nI R) (e1.trans hR2) ?_
          refine V_if_lt X (tgt := 436) (by decide) dL_isLobby_342 (fun hc342 => absurd hc342 (nI_pos (by omega))) (fun hc342 => ?_)
          refine V_aload_n X rfl dL_isLobby_345 ?_
          refine V_iload X rfl dL_isLobby_346 ?_
          refine V_callVp X (rest := _) (c_X5_rating_t _ _ _ al fi z hR i hlt) (hR.2.1 (15, 0) dm15) rfl gL_isLobby_X5_rating rfl hdv_X5_rating (Nat.le_of_ble_eq_true rfl) (Nat.le_of_ble_eq_true rfl) rfl (Nat.le_of_ble_eq_true rfl) dL_isLobby_348 ?_
          refine V.top (y := nI R) (e1.trans hR2) ?_
          refine V_sipush X (v := 4000) (by decide) dL_isLobby_351 ?_
          refine V_icmp_gt X (tgt := 436) (by decide) dL_isLobby_354 (fun hc354 => absurd hc354 (Int32.not_lt.mpr (nI_le (a := R) (b := 4000) hR1 (by decide)))) (fun hc354 => ?_)
          refine V_aload_n X rfl dL_isLobby_357 ?_
          refine V_iload X rfl dL_isLobby_358 ?_
          refine V_callVp X (rest := _) (c_X5_uncertainty_t _ _ _ al fi z hR i hlt) (hR.2.1 (15, 0) dm15) rfl gL_isLobby_X5_uncertainty rfl hdv_X5_uncertainty (Nat.le_of_ble_eq_true rfl) (Nat.le_of_ble_eq_true rfl) rfl (Nat.le_of_ble_eq_true rfl) dL_isLobby_360 ?_
          refine V.top (y := nI D) (e2.trans hD3) ?_
          refine V_bipush X (v := 50) (by decide) dL_isLobby_363 ?_
          refine V_icmp_lt X (tgt := 436) (by decide) dL_isLobby_365 (fun hc365 => absurd hc365 (Int32.not_lt.mpr (nI_le (a := 50) (b := D) hD1 (by omega)))) (fun hc365 => ?_)
          refine V_aload_n X rfl dL_isLobby_368 ?_
          refine V_iload X rfl dL_isLobby_369 ?_
          refine V_callVp X (rest := _) (c_X5_uncertainty_t _ _ _ al fi z hR i hlt) (hR.2.1 (15, 0) dm15) rfl gL_isLobby_X5_uncertainty rfl hdv_X5_uncertainty (Nat.le_of_ble_eq_true rfl) (Nat.le_of_ble_eq_true rfl) rfl (Nat.le_of_ble_eq_true rfl) dL_isLobby_371 ?_
          refine V.top (y := nI D) (e2.trans hD3) ?_
          refine V_sipush X (v := 350) (by decide) dL_isLobby_374 ?_
          refine V_icmp_gt X (tgt := 436) (by decide) dL_isLobby_377 (fun hc377 => absurd hc377 (Int32.not_lt.mpr (nI_le (a := D) (b := 350) hD2 (by decide)))) (fun hc377 => ?_)
          refine V_aload_n X rfl dL_isLobby_380 ?_
          refine V_iload X rfl dL_isLobby_381 ?_
          refine V_callVp X (rest := _) (c_X5_level_t _ _ _ al fi z hR i hlt) (hR.2.1 (15, 0) dm15) rfl gL_isLobby_X5_level rfl hdv_X5_level (Nat.le_of_ble_eq_true rfl) (Nat.le_of_ble_eq_true rfl) rfl (Nat.le_of_ble_eq_true rfl) dL_isLobby_383 ?_
          refine V.top (y := nI Lv) (hL2) ?_
          refine V_if_lt X (tgt := 436) (by decide) dL_isLobby_386 (fun hc386 => absurd hc386 (nI_pos (by omega))) (fun hc386 => ?_)
          refine V_aload_n X rfl dL_isLobby_389 ?_
          refine V_iload X rfl dL_isLobby_390 ?_
          refine V_callVp X (rest := _) (c_X5_level_t _ _ _ al fi z hR i hlt) (hR.2.1 (15, 0) dm15) rfl gL_isLobby_X5_level rfl hdv_X5_level (Nat.le_of_ble_eq_true rfl) (Nat.le_of_ble_eq_true rfl) rfl (Nat.le_of_ble_eq_true rfl) dL_isLobby_392 ?_
          refine V.top (y := nI Lv) (hL2) ?_
          refine V_iconst X (v := 5) (by decide) dL_isLobby_395 ?_
          refine V_icmp_gt X (tgt := 436) (by decide) dL_isLobby_396 (fun hc396 => absurd hc396 (Int32.not_lt.mpr (nI_le (a := Lv) (b := 5) hL1 (by decide)))) (fun hc396 => ?_)
          refine V_aload_n X rfl dL_isLobby_399 ?_
          refine V_iload X rfl dL_isLobby_400 ?_
          refine V_callVp X (rest := _) (c_X5_barred_t _ _ _ al fi z hR i hlt) (hR.2.1 (15, 0) dm15) rfl gL_isLobby_X5_barred rfl hdv_X5_barred (Nat.le_of_ble_eq_true rfl) (Nat.le_of_ble_eq_true rfl) rfl (Nat.le_of_ble_eq_true rfl) dL_isLobby_402 ?_
          refine V.top (y := if (0 : Int32) < nI W - nI c then nI W - nI c else 0) (by rw [e6, hW2, hS.ck]) ?_
          refine V_aload_n X rfl dL_isLobby_405 ?_
          refine V_iload X rfl dL_isLobby_406 ?_
          refine V_ald X hA 3 (i) 18 (by decide) rfl (by omega) (hr3.trans hW2) dL_isLobby_408 ?_
          refine V_aload X rfl dL_isLobby_409 ?_
          refine V_iconst X (v := 0) (by decide) dL_isLobby_411 ?_
          refine V_ald X hA 6 (0) 4 (by decide) rfl (by omega) (hI.c0) dL_isLobby_412 ?_
          refine V_icmp_le X (tgt := 428) (by decide) dL_isLobby_413 (fun hc413 => ?_) (fun hc413 => ?_)
          · refine V_iconst X (v := 0) (by decide) dL_isLobby_428 ?_
            refine V_icmp_ne X (tgt := 436) (by decide) dL_isLobby_429 (fun hc429 => absurd hc429 (fun q => q (by rw [SI.bar hI hW1, if_pos hc413]))) (fun hc429 => ?_)
            refine V_iconst X (v := 1) (by decide) dL_isLobby_432 ?_
            refine V_goto X (tgt := 437) (by decide) dL_isLobby_433 ?_
            refine V_istore X (lv' := [(9, _), (0, _), (1, _), (2, _), (3, _), (4, _), (5, _), (6, _), (7, _), (8, _), (10, _)]) (by decide) rfl dL_isLobby_437 ?_
            refine V_iinc X (lv' := [(10, _), (9, _), (0, _), (1, _), (2, _), (3, _), (4, _), (5, _), (6, _), (7, _), (8, _)]) (v := nI (i + 1)) rfl (nI_1 _) (by decide) rfl dL_isLobby_439 ?_
            refine V_goto X (tgt := 284) (by decide) dL_isLobby_442 ?_
            refine V.lvs (lv' := [(0, _), (1, _), (2, _), (3, _), (4, _), (5, _), (6, _), (7, _), (8, _), (9, _), (10, _)]) rfl ?_
            exact ih (zN z 0 - (i + 1)) (by omega) (i + 1) rfl (by omega)
          · refine V_aload_n X rfl dL_isLobby_416 ?_
            refine V_iload X rfl dL_isLobby_417 ?_
            refine V_ald X hA 3 (i) 18 (by decide) rfl (by omega) (hr3.trans hW2) dL_isLobby_419 ?_
            refine V_aload X rfl dL_isLobby_420 ?_
            refine V_iconst X (v := 0) (by decide) dL_isLobby_422 ?_
            refine V_ald X hA 6 (0) 4 (by decide) rfl (by omega) (hI.c0) dL_isLobby_423 ?_
            refine V_isub X dL_isLobby_424 ?_
            refine V_goto X (tgt := 429) (by decide) dL_isLobby_425 ?_
            refine V_icmp_ne X (tgt := 436) (by decide) dL_isLobby_429 (fun hc429 => absurd hc429 (fun q => q (by rw [SI.bar hI hW1, if_neg hc413]))) (fun hc429 => ?_)
            refine V_iconst X (v := 1) (by decide) dL_isLobby_432 ?_
            refine V_goto X (tgt := 437) (by decide) dL_isLobby_433 ?_
            refine V_istore X (lv' := [(9, _), (0, _), (1, _), (2, _), (3, _), (4, _), (5, _), (6, _), (7, _), (8, _), (10, _)]) (by decide) rfl dL_isLobby_437 ?_
            refine V_iinc X (lv' := [(10, _), (9, _), (0, _), (1, _), (2, _), (3, _), (4, _), (5, _), (6, _), (7, _), (8, _)]) (v := nI (i + 1)) rfl (nI_1 _) (by decide) rfl dL_isLobby_439 ?_
            refine V_goto X (tgt := 284) (by decide) dL_isLobby_442 ?_
            refine V.lvs (lv' := [(0, _), (1, _), (2, _), (3, _), (4, _), (5, _), (6, _), (7, _), (8, _), (9, _), (10, _)]) rfl ?_
            exact ih (zN z 0 - (i + 1)) (by omega) (i + 1) rfl (by omega)
  have L2 : ∀ (n i : Nat), zN z 2 - i = n → i ≤ zN z 2 → V K f 0 0 167 [(0, .ref (al (15, 0))), (1, .ref (A 0)), (2, .ref (A 1)), (3, .ref (A 3)), (4, .ref (A 6)), (5, .int (nI x)), (6, .int (sumI (fun t => if qB Q t = true then 1 else 0) (zN z 1))), (7, .int (orI (qB Q) (fun t => nI (P t)) (zN z 1))), (8, .int (orI (plB ar) (fun m => allI (ar 11) m) i)), (9, .int 1), (10, .int (nI i))] [] := by
    intro n
    induction n using Nat.strongRecOn with
    | ind n ih =>
      intro i hn hi
      refine V_iload X rfl dL_isLobby_167 ?_
      refine V_aload X rfl dL_isLobby_169 ?_
      refine V_iconst X (v := 3) (by decide) dL_isLobby_171 ?_
      refine V_ald X hA 6 (3) 4 (by decide) rfl (by omega) (hI.c3) dL_isLobby_172 ?_
      refine V_icmp_ge X (tgt := 281) (by decide) dL_isLobby_173 (fun hc173 => ?_) (fun hc173 => ?_)
      · refine V_iconst X (v := 0) (by decide) dL_isLobby_281 ?_
        refine V_istore X (lv' := [(10, _), (0, _), (1, _), (2, _), (3, _), (4, _), (5, _), (6, _), (7, _), (8, _), (9, _)]) (by decide) rfl dL_isLobby_282 ?_
        have hiN := lim_ge (N := zN z 2) rfl hc173 hi (by omega)
        refine V.lvs (lv' := [(0, _), (1, _), (2, _), (3, _), (4, _), (5, _), (6, _), (7, _), (8, _), (9, _), (10, _)]) rfl ?_
        rw [hiN]
        exact L3 _ 0 rfl (Nat.zero_le _)
      · have hlt := lim_lt (N := zN z 2) rfl hc173 hi (by omega)
        obtain ⟨⟨U, Tm, hU, hT, hm3, hm4, hm5⟩, -, -, -, -, hdj⟩ := hI.ma hlt
        obtain ⟨g9, g10, -, g13, -⟩ := hS.mt hlt
        have hp2 : ar 15 i = 0 ∨ ar 15 i = 1 → Tm < 2 := fun q => by
          rw [hm4] at q
          rcases q with q | q
          · have := (nI_eq (a := Tm) (b := 0) (by omega) (by decide)).mp q
            omega
          · have := (nI_eq (a := Tm) (b := 1) (by omega) (by decide)).mp q
            omega
        have hp3 : ¬ (ar 15 i = 0 ∨ ar 15 i = 1) → 2 ≤ Tm := fun q => Nat.le_of_not_lt fun r => q (by
          rw [hm4]
          rcases (show Tm = 0 ∨ Tm = 1 by omega) with h | h
          · exact Or.inl (by rw [h]; rfl)
          · exact Or.inr (by rw [h]; rfl))
        refine V_aload_n X rfl dL_isLobby_176 ?_
        refine V_iload X rfl dL_isLobby_177 ?_
        refine V_ald X hA 1 (i) 31 (by decide) rfl (by omega) (hm5) dL_isLobby_179 ?_
        refine V_bipush X (v := 18) (by decide) dL_isLobby_180 ?_
        refine V_ishr X dL_isLobby_182 ?_
        refine V_iconst X (v := 3) (by decide) dL_isLobby_183 ?_
        refine V_iand X dL_isLobby_184 ?_
        refine V.top (y := nI Tm) (j_st hU hT) ?_
        refine V_istore X (lv' := [(11, _), (0, _), (1, _), (2, _), (3, _), (4, _), (5, _), (6, _), (7, _), (8, _), (9, _), (10, _)]) (by decide) rfl dL_isLobby_185 ?_
        refine V_iload X rfl dL_isLobby_187 ?_
        refine V_if_eq X (tgt := 250) (by decide) dL_isLobby_189 (fun hc189 => absurd hc189 (by decide)) (fun hc189 => ?_)
        refine V_aload_n X rfl dL_isLobby_192 ?_
        refine V_iload X rfl dL_isLobby_193 ?_
        refine V_callVp X (rest := _) (c_X5_matchState_t _ _ _ al fi z hR i hlt) (hR.2.1 (15, 0) dm15) rfl gL_isLobby_X5_matchState rfl hdv_X5_matchState (Nat.le_of_ble_eq_true rfl) (Nat.le_of_ble_eq_true rfl) rfl (Nat.le_of_ble_eq_true rfl) dL_isLobby_195 ?_
        refine V.top (y := nI Tm) (g13.trans hm4) ?_
        refine V_iload X rfl dL_isLobby_198 ?_
        refine V_icmp_ne X (tgt := 250) (by decide) dL_isLobby_200 (fun hc200 => absurd hc200 (fun q => q rfl)) (fun hc200 => ?_)
        refine V_aload_n X rfl dL_isLobby_203 ?_
        refine V_iload X rfl dL_isLobby_204 ?_
        refine V_iconst X (v := 0) (by decide) dL_isLobby_206 ?_
        refine V_callVp X (rest := _) (c_X5_team_t _ _ _ al fi z hR i hlt 0 (Or.inl rfl)) (hR.2.1 (15, 0) dm15) rfl gL_isLobby_X5_team rfl hdv_X5_team (Nat.le_of_ble_eq_true rfl) (Nat.le_of_ble_eq_true rfl) rfl (Nat.le_of_ble_eq_true rfl) dL_isLobby_207 ?_
        refine V.top (y := ar 11 (2 * i)) ((if_pos rfl).trans g9) ?_
        refine V_aload_n X rfl dL_isLobby_210 ?_
        refine V_iload X rfl dL_isLobby_211 ?_
        refine V_iconst X (v := 1) (by decide) dL_isLobby_213 ?_
        refine V_callVp X (rest := _) (c_X5_team_t _ _ _ al fi z hR i hlt 1 (Or.inr rfl)) (hR.2.1 (15, 0) dm15) rfl gL_isLobby_X5_team rfl hdv_X5_team (Nat.le_of_ble_eq_true rfl) (Nat.le_of_ble_eq_true rfl) rfl (Nat.le_of_ble_eq_true rfl) dL_isLobby_214 ?_
        refine V.top (y := ar 11 (2 * i + 1)) ((if_neg (by decide)).trans g10) ?_
        refine V_ior X dL_isLobby_217 ?_
        refine V.top (y := nI U) (hm3) ?_
        refine V_aload_n X rfl dL_isLobby_218 ?_
        refine V_iload X rfl dL_isLobby_219 ?_
        refine V_ald X hA 1 (i) 31 (by decide) rfl (by omega) (hm5) dL_isLobby_221 ?_
        refine V_ldc X (v := 262143) (by decide +kernel) dL_isLobby_222 ?_
        refine V_iand X dL_isLobby_224 ?_
        refine V.top (y := nI U) (j_U hU hT) ?_
        refine V_icmp_ne X (tgt := 250) (by decide) dL_isLobby_225 (fun hc225 => absurd hc225 (fun q => q rfl)) (fun hc225 => ?_)
        refine V_aload_n X rfl dL_isLobby_228 ?_
        refine V_iload X rfl dL_isLobby_229 ?_
        refine V_iconst X (v := 0) (by decide) dL_isLobby_231 ?_
        refine V_callVp X (rest := _) (c_X5_team_t _ _ _ al fi z hR i hlt 0 (Or.inl rfl)) (hR.2.1 (15, 0) dm15) rfl gL_isLobby_X5_team rfl hdv_X5_team (Nat.le_of_ble_eq_true rfl) (Nat.le_of_ble_eq_true rfl) rfl (Nat.le_of_ble_eq_true rfl) dL_isLobby_232 ?_
        refine V.top (y := ar 11 (2 * i)) ((if_pos rfl).trans g9) ?_
        refine V_aload_n X rfl dL_isLobby_235 ?_
        refine V_iload X rfl dL_isLobby_236 ?_
        refine V_iconst X (v := 1) (by decide) dL_isLobby_238 ?_
        refine V_callVp X (rest := _) (c_X5_team_t _ _ _ al fi z hR i hlt 1 (Or.inr rfl)) (hR.2.1 (15, 0) dm15) rfl gL_isLobby_X5_team rfl hdv_X5_team (Nat.le_of_ble_eq_true rfl) (Nat.le_of_ble_eq_true rfl) rfl (Nat.le_of_ble_eq_true rfl) dL_isLobby_239 ?_
        refine V.top (y := ar 11 (2 * i + 1)) ((if_neg (by decide)).trans g10) ?_
        refine V_iand X dL_isLobby_242 ?_
        refine V.top (y := 0) (hdj) ?_
        refine V_if_ne X (tgt := 250) (by decide) dL_isLobby_243 (fun hc243 => absurd hc243 (by decide)) (fun hc243 => ?_)
        refine V_iconst X (v := 1) (by decide) dL_isLobby_246 ?_
        refine V_goto X (tgt := 251) (by decide) dL_isLobby_247 ?_
        refine V_istore X (lv' := [(9, _), (11, _), (0, _), (1, _), (2, _), (3, _), (4, _), (5, _), (6, _), (7, _), (8, _), (10, _)]) (by decide) rfl dL_isLobby_251 ?_
        by_cases hpl : ar 15 i = 0 ∨ ar 15 i = 1
        · refine V_iload X rfl dL_isLobby_253 ?_
          refine V_iload X rfl dL_isLobby_255 ?_
          refine V_iconst X (v := 2) (by decide) dL_isLobby_257 ?_
          refine V_icmp_ge X (tgt := 271) (by decide) dL_isLobby_258 (fun hc258 => absurd hc258 (Int32.not_le.mpr (nI_lt (a := Tm) (b := 2) (hp2 hpl) (by decide)))) (fun hc258 => ?_)
          refine V_aload_n X rfl dL_isLobby_261 ?_
          refine V_iload X rfl dL_isLobby_262 ?_
          refine V_ald X hA 1 (i) 31 (by decide) rfl (by omega) (hm5) dL_isLobby_264 ?_
          refine V_ldc X (v := 262143) (by decide +kernel) dL_isLobby_265 ?_
          refine V_iand X dL_isLobby_267 ?_
          refine V.top (y := nI U) (j_U hU hT) ?_
          refine V_goto X (tgt := 272) (by decide) dL_isLobby_268 ?_
          refine V_ior X dL_isLobby_272 ?_
          refine V.top (y := orI (plB ar) (fun m => allI (ar 11) m) (i + 1)) ((by rw [← hm3]; exact orI_t (decide_eq_true hpl))) ?_
          refine V_istore X (lv' := [(8, _), (9, _), (11, _), (0, _), (1, _), (2, _), (3, _), (4, _), (5, _), (6, _), (7, _), (10, _)]) (by decide) rfl dL_isLobby_273 ?_
          refine V_iinc X (lv' := [(10, _), (8, _), (9, _), (11, _), (0, _), (1, _), (2, _), (3, _), (4, _), (5, _), (6, _), (7, _)]) (v := nI (i + 1)) rfl (nI_1 _) (by decide) rfl dL_isLobby_275 ?_
          refine V_goto X (tgt := 167) (by decide) dL_isLobby_278 ?_
          refine V.lvs (lv' := [(0, _), (1, _), (2, _), (3, _), (4, _), (5, _), (6, _), (7, _), (8, _), (9, _), (10, _)]) rfl ?_
          exact ih (zN z 2 - (i + 1)) (by omega) (i + 1) rfl (by omega)
        · refine V_iload X rfl dL_isLobby_253 ?_
          refine V_iload X rfl dL_isLobby_255 ?_
          refine V_iconst X (v := 2) (by decide) dL_isLobby_257 ?_
          refine V_icmp_ge X (tgt := 271) (by decide) dL_isLobby_258 (fun hc258 => ?_) (fun hc258 => absurd hc258 (not_not_intro (nI_le (a := 2) (b := Tm) (hp3 hpl) (by omega))))
          refine V_iconst X (v := 0) (by decide) dL_isLobby_271 ?_
          refine V_ior X dL_isLobby_272 ?_
          refine V.top (y := orI (plB ar) (fun m => allI (ar 11) m) (i + 1)) (orI_f (decide_eq_false hpl)) ?_
          refine V_istore X (lv' := [(8, _), (9, _), (11, _), (0, _), (1, _), (2, _), (3, _), (4, _), (5, _), (6, _), (7, _), (10, _)]) (by decide) rfl dL_isLobby_273 ?_
          refine V_iinc X (lv' := [(10, _), (8, _), (9, _), (11, _), (0, _), (1, _), (2, _), (3, _), (4, _), (5, _), (6, _), (7, _)]) (v := nI (i + 1)) rfl (nI_1 _) (by decide) rfl dL_isLobby_275 ?_
          refine V_goto X (tgt := 167) (by decide) dL_isLobby_278 ?_
          refine V.lvs (lv' := [(0, _), (1, _), (2, _), (3, _), (4, _), (5, _), (6, _), (7, _), (8, _), (9, _), (10, _)]) rfl ?_
          exact ih (zN z 2 - (i + 1)) (by omega) (i + 1) rfl (by omega)
  have L1 : ∀ (n i : Nat), zN z 1 - i = n → i ≤ zN z 1 → V K f (60 - i) (360 - 6 * i) 52 [(0, .ref (al (15, 0))), (1, .ref (A 0)), (2, .ref (A 1)), (3, .ref (A 3)), (4, .ref (A 6)), (5, .int (nI x)), (6, .int (sumI (fun t => if qB Q t = true then 1 else 0) i)), (7, .int (orI (qB Q) (fun t => nI (P t)) i)), (8, .int 0), (9, .int 1), (10, .int (nI i))] [] := by
    intro n
    induction n using Nat.strongRecOn with
    | ind n ih =>
      intro i hn hi
      refine V_iload X rfl dL_isLobby_52 ?_
      refine V_aload X rfl dL_isLobby_54 ?_
      refine V_iconst X (v := 2) (by decide) dL_isLobby_56 ?_
      refine V_ald X hA 6 (2) 4 (by decide) rfl (by omega) (hI.c2) dL_isLobby_57 ?_
      refine V_icmp_ge X (tgt := 164) (by decide) dL_isLobby_58 (fun hc58 => ?_) (fun hc58 => ?_)
      · refine V_iconst X (v := 0) (by decide) dL_isLobby_164 ?_
        refine V_istore X (lv' := [(10, _), (0, _), (1, _), (2, _), (3, _), (4, _), (5, _), (6, _), (7, _), (8, _), (9, _)]) (by decide) rfl dL_isLobby_165 ?_
        have hiN := lim_ge (N := zN z 1) rfl hc58 hi (by omega)
        refine V.lvs (lv' := [(0, _), (1, _), (2, _), (3, _), (4, _), (5, _), (6, _), (7, _), (8, _), (9, _), (10, _)]) rfl ?_
        rw [hiN]
        refine V.bud (Nat.zero_le _) (Nat.zero_le _) ?_
        exact L2 _ 0 rfl (Nat.zero_le _)
      · have hlt := lim_lt (N := zN z 1) rfl hc58 hi (by omega)
        by_cases hq : Q i = 1
        · refine V_iload X rfl dL_isLobby_61 ?_
          refine V_aload_n X rfl dL_isLobby_63 ?_
          refine V_iload X rfl dL_isLobby_64 ?_
          refine V_callSp X (rest := _) (c_L_queues _ _ _ A lq la hA (i) (by have := hI.nt; have := hlt; omega) (P (i)) (S (i)) (Q (i)) (M (i)) (hI.ok hlt) (hI.q hlt)) gL_isLobby_L_queues rfl hds_L_queues (Nat.le_of_ble_eq_true rfl) (Nat.le_of_ble_eq_true rfl) rfl (Nat.le_of_ble_eq_true rfl) dL_isLobby_66 ?_
          refine V.top (y := 1) (by rw [decide_eq_true hq]; rfl) ?_
          refine V_if_eq X (tgt := 76) (by decide) dL_isLobby_69 (fun hc69 => absurd hc69 (by decide)) (fun hc69 => ?_)
          refine V_iconst X (v := 1) (by decide) dL_isLobby_72 ?_
          refine V_goto X (tgt := 77) (by decide) dL_isLobby_73 ?_
          refine V_iadd X dL_isLobby_77 ?_
          refine V.top (y := sumI (fun t => if qB Q t = true then 1 else 0) (i + 1)) (congrArg (sumI (fun t => if qB Q t = true then 1 else 0) i + ·) (if_pos (decide_eq_true hq)).symm) ?_
          refine V_istore X (lv' := [(6, _), (0, _), (1, _), (2, _), (3, _), (4, _), (5, _), (7, _), (8, _), (9, _), (10, _)]) (by decide) rfl dL_isLobby_78 ?_
          refine V_iload X rfl dL_isLobby_80 ?_
          refine V_aload_n X rfl dL_isLobby_82 ?_
          refine V_iload X rfl dL_isLobby_83 ?_
          refine V_callSp X (rest := _) (c_L_queues _ _ _ A lq la hA (i) (by have := hI.nt; have := hlt; omega) (P (i)) (S (i)) (Q (i)) (M (i)) (hI.ok hlt) (hI.q hlt)) gL_isLobby_L_queues rfl hds_L_queues (Nat.le_of_ble_eq_true rfl) (Nat.le_of_ble_eq_true rfl) rfl (Nat.le_of_ble_eq_true rfl) dL_isLobby_85 ?_
          refine V.top (y := 1) (by rw [decide_eq_true hq]; rfl) ?_
          refine V_if_eq X (tgt := 100) (by decide) dL_isLobby_88 (fun hc88 => absurd hc88 (by decide)) (fun hc88 => ?_)
          refine V_aload_n X rfl dL_isLobby_91 ?_
          refine V_iload X rfl dL_isLobby_92 ?_
          refine V_callSp X (rest := _) (c_L_players _ _ _ A lq la hA (i) (by have := hI.nt; have := hlt; omega) (P (i)) (S (i)) (Q (i)) (M (i)) (hI.ok hlt) (hI.q hlt)) gL_isLobby_L_players rfl hds_L_players (Nat.le_of_ble_eq_true rfl) (Nat.le_of_ble_eq_true rfl) rfl (Nat.le_of_ble_eq_true rfl) dL_isLobby_94 ?_
          refine V_goto X (tgt := 101) (by decide) dL_isLobby_97 ?_
          refine V_ior X dL_isLobby_101 ?_
          refine V.top (y := orI (qB Q) (fun t => nI (P t)) (i + 1)) (orI_t (g := (fun t => nI (P t))) (decide_eq_true hq)) ?_
          refine V_istore X (lv' := [(7, _), (6, _), (0, _), (1, _), (2, _), (3, _), (4, _), (5, _), (8, _), (9, _), (10, _)]) (by decide) rfl dL_isLobby_102 ?_
          refine V_iload X rfl dL_isLobby_104 ?_
          refine V_if_eq X (tgt := 155) (by decide) dL_isLobby_106 (fun hc106 => absurd hc106 (by decide)) (fun hc106 => ?_)
          refine V_aload_n X rfl dL_isLobby_109 ?_
          refine V_iconst X (v := 5) (by decide) dL_isLobby_110 ?_
          refine V_iload X rfl dL_isLobby_111 ?_
          refine V_iconst X (v := 0) (by decide) dL_isLobby_113 ?_
          refine V_callSH (kc' := 60 - (i + 1)) (ks' := 360 - 6 * (i + 1)) X (rest := _) (c_L_asks_w _ _ _ al fi z hR i 0 hlt ((SI.q1 hS hI hlt).mp hq)) gL_isLobby_L_asks rfl hds_L_asks (Nat.le_of_ble_eq_true rfl) (Nat.le_of_ble_eq_true rfl) rfl (Nat.le_of_ble_eq_true rfl) (by omega) (by omega) dL_isLobby_114 (fun r9 f9 h9 => ?_)
          obtain ⟨rfl, rfl⟩ := h9
          refine V_aload_n X rfl dL_isLobby_117 ?_
          refine V_iload X rfl dL_isLobby_118 ?_
          refine V_callSp X (rest := _) (c_L_queues _ _ _ A lq la hA (i) (by have := hI.nt; have := hlt; omega) (P (i)) (S (i)) (Q (i)) (M (i)) (hI.ok hlt) (hI.q hlt)) gL_isLobby_L_queues rfl hds_L_queues (Nat.le_of_ble_eq_true rfl) (Nat.le_of_ble_eq_true rfl) rfl (Nat.le_of_ble_eq_true rfl) dL_isLobby_120 ?_
          refine V.top (y := 1) (by rw [decide_eq_true hq]; rfl) ?_
          refine V_if_eq X (tgt := 146) (by decide) dL_isLobby_123 (fun hc123 => absurd hc123 (by decide)) (fun hc123 => ?_)
          refine V_bipush X (v := 100) (by decide) dL_isLobby_126 ?_
          refine V_bipush X (v := 20) (by decide) dL_isLobby_128 ?_
          refine V_aload X rfl dL_isLobby_130 ?_
          refine V_iconst X (v := 0) (by decide) dL_isLobby_132 ?_
          refine V_ald X hA 6 (0) 4 (by decide) rfl (by omega) (hI.c0) dL_isLobby_133 ?_
          refine V_aload_n X rfl dL_isLobby_134 ?_
          refine V_iload X rfl dL_isLobby_135 ?_
          refine V_callSp X (rest := _) (c_L_since _ _ _ A lq la hA (i) (by have := hI.nt; have := hlt; omega) (P (i)) (S (i)) (Q (i)) (M (i)) (hI.ok hlt) (hI.q hlt)) gL_isLobby_L_since rfl hds_L_since (Nat.le_of_ble_eq_true rfl) (Nat.le_of_ble_eq_true rfl) rfl (Nat.le_of_ble_eq_true rfl) dL_isLobby_137 ?_
          refine V_isub X dL_isLobby_140 ?_
          refine V_imul X dL_isLobby_141 ?_
          refine V_iadd X dL_isLobby_142 ?_
          refine V_goto X (tgt := 148) (by decide) dL_isLobby_143 ?_
          refine V_icmp_ne X (tgt := 155) (by decide) dL_isLobby_148 (fun hc148 => absurd hc148 (fun q => q (by unfold wnC; rw [hS.ck, SI.s6 hS hI hlt]))) (fun hc148 => ?_)
          refine V_iconst X (v := 1) (by decide) dL_isLobby_151 ?_
          refine V_goto X (tgt := 156) (by decide) dL_isLobby_152 ?_
          refine V_istore X (lv' := [(9, _), (7, _), (6, _), (0, _), (1, _), (2, _), (3, _), (4, _), (5, _), (8, _), (10, _)]) (by decide) rfl dL_isLobby_156 ?_
          refine V_iinc X (lv' := [(10, _), (9, _), (7, _), (6, _), (0, _), (1, _), (2, _), (3, _), (4, _), (5, _), (8, _)]) (v := nI (i + 1)) rfl (nI_1 _) (by decide) rfl dL_isLobby_158 ?_
          refine V_goto X (tgt := 52) (by decide) dL_isLobby_161 ?_
          refine V.lvs (lv' := [(0, _), (1, _), (2, _), (3, _), (4, _), (5, _), (6, _), (7, _), (8, _), (9, _), (10, _)]) rfl ?_
          exact ih (zN z 1 - (i + 1)) (by omega) (i + 1) rfl (by omega)
        · refine V_iload X rfl dL_isLobby_61 ?_
          refine V_aload_n X rfl dL_isLobby_63 ?_
          refine V_iload X rfl dL_isLobby_64 ?_
          refine V_callSp X (rest := _) (c_L_queues _ _ _ A lq la hA (i) (by have := hI.nt; have := hlt; omega) (P (i)) (S (i)) (Q (i)) (M (i)) (hI.ok hlt) (hI.q hlt)) gL_isLobby_L_queues rfl hds_L_queues (Nat.le_of_ble_eq_true rfl) (Nat.le_of_ble_eq_true rfl) rfl (Nat.le_of_ble_eq_true rfl) dL_isLobby_66 ?_
          refine V.top (y := 0) (by rw [decide_eq_false hq]; rfl) ?_
          refine V_if_eq X (tgt := 76) (by decide) dL_isLobby_69 (fun hc69 => ?_) (fun hc69 => absurd hc69 (by decide))
          refine V_iconst X (v := 0) (by decide) dL_isLobby_76 ?_
          refine V_iadd X dL_isLobby_77 ?_
          refine V.top (y := sumI (fun t => if qB Q t = true then 1 else 0) (i + 1)) (congrArg (sumI (fun t => if qB Q t = true then 1 else 0) i + ·) (if_neg (by rw [show qB Q i = false from decide_eq_false hq]; decide)).symm) ?_
          refine V_istore X (lv' := [(6, _), (0, _), (1, _), (2, _), (3, _), (4, _), (5, _), (7, _), (8, _), (9, _), (10, _)]) (by decide) rfl dL_isLobby_78 ?_
          refine V_iload X rfl dL_isLobby_80 ?_
          refine V_aload_n X rfl dL_isLobby_82 ?_
          refine V_iload X rfl dL_isLobby_83 ?_
          refine V_callSp X (rest := _) (c_L_queues _ _ _ A lq la hA (i) (by have := hI.nt; have := hlt; omega) (P (i)) (S (i)) (Q (i)) (M (i)) (hI.ok hlt) (hI.q hlt)) gL_isLobby_L_queues rfl hds_L_queues (Nat.le_of_ble_eq_true rfl) (Nat.le_of_ble_eq_true rfl) rfl (Nat.le_of_ble_eq_true rfl) dL_isLobby_85 ?_
          refine V.top (y := 0) (by rw [decide_eq_false hq]; rfl) ?_
          refine V_if_eq X (tgt := 100) (by decide) dL_isLobby_88 (fun hc88 => ?_) (fun hc88 => absurd hc88 (by decide))
          refine V_iconst X (v := 0) (by decide) dL_isLobby_100 ?_
          refine V_ior X dL_isLobby_101 ?_
          refine V.top (y := orI (qB Q) (fun t => nI (P t)) (i + 1)) (orI_f (decide_eq_false hq)) ?_
          refine V_istore X (lv' := [(7, _), (6, _), (0, _), (1, _), (2, _), (3, _), (4, _), (5, _), (8, _), (9, _), (10, _)]) (by decide) rfl dL_isLobby_102 ?_
          refine V_iload X rfl dL_isLobby_104 ?_
          refine V_if_eq X (tgt := 155) (by decide) dL_isLobby_106 (fun hc106 => absurd hc106 (by decide)) (fun hc106 => ?_)
          refine V_aload_n X rfl dL_isLobby_109 ?_
          refine V_iconst X (v := 5) (by decide) dL_isLobby_110 ?_
          refine V_iload X rfl dL_isLobby_111 ?_
          refine V_iconst X (v := 0) (by decide) dL_isLobby_113 ?_
          refine V_callSH (kc' := 60 - (i + 1)) (ks' := 360 - 6 * (i + 1)) X (rest := _) (c_L_asks_w_s _ hl _ _ al fi z hR i 0 hlt (fun q => hq ((SI.q1 hS hI hlt).mpr q))) gL_isLobby_L_asks rfl hds_L_asks (Nat.le_of_ble_eq_true rfl) (Nat.le_of_ble_eq_true rfl) rfl (Nat.le_of_ble_eq_true rfl) (by omega) (by omega) dL_isLobby_114 (fun r9 f9 h9 => ?_)
          obtain ⟨rfl, rfl⟩ := h9
          refine V_aload_n X rfl dL_isLobby_117 ?_
          refine V_iload X rfl dL_isLobby_118 ?_
          refine V_callSp X (rest := _) (c_L_queues _ _ _ A lq la hA (i) (by have := hI.nt; have := hlt; omega) (P (i)) (S (i)) (Q (i)) (M (i)) (hI.ok hlt) (hI.q hlt)) gL_isLobby_L_queues rfl hds_L_queues (Nat.le_of_ble_eq_true rfl) (Nat.le_of_ble_eq_true rfl) rfl (Nat.le_of_ble_eq_true rfl) dL_isLobby_120 ?_
          refine V.top (y := 0) (by rw [decide_eq_false hq]; rfl) ?_
          refine V_if_eq X (tgt := 146) (by decide) dL_isLobby_123 (fun hc123 => ?_) (fun hc123 => absurd hc123 (by decide))
          refine V_bipush X (v := (-8)) (by decide) dL_isLobby_146 ?_
          refine V_icmp_ne X (tgt := 155) (by decide) dL_isLobby_148 (fun hc148 => absurd hc148 (fun q => q rfl)) (fun hc148 => ?_)
          refine V_iconst X (v := 1) (by decide) dL_isLobby_151 ?_
          refine V_goto X (tgt := 156) (by decide) dL_isLobby_152 ?_
          refine V_istore X (lv' := [(9, _), (7, _), (6, _), (0, _), (1, _), (2, _), (3, _), (4, _), (5, _), (8, _), (10, _)]) (by decide) rfl dL_isLobby_156 ?_
          refine V_iinc X (lv' := [(10, _), (9, _), (7, _), (6, _), (0, _), (1, _), (2, _), (3, _), (4, _), (5, _), (8, _)]) (v := nI (i + 1)) rfl (nI_1 _) (by decide) rfl dL_isLobby_158 ?_
          refine V_goto X (tgt := 52) (by decide) dL_isLobby_161 ?_
          refine V.lvs (lv' := [(0, _), (1, _), (2, _), (3, _), (4, _), (5, _), (6, _), (7, _), (8, _), (9, _), (10, _)]) rfl ?_
          exact ih (zN z 1 - (i + 1)) (by omega) (i + 1) rfl (by omega)
  refine V_iconst X (v := 0) (by decide) dL_isLobby_0 ?_
  refine V_istore X (lv' := [(6, _), (0, _), (1, _), (2, _), (3, _), (4, _), (5, _)]) (by decide) rfl dL_isLobby_1 ?_
  refine V_iconst X (v := 0) (by decide) dL_isLobby_3 ?_
  refine V_istore X (lv' := [(7, _), (6, _), (0, _), (1, _), (2, _), (3, _), (4, _), (5, _)]) (by decide) rfl dL_isLobby_4 ?_
  refine V_iconst X (v := 0) (by decide) dL_isLobby_6 ?_
  refine V_istore X (lv' := [(8, _), (7, _), (6, _), (0, _), (1, _), (2, _), (3, _), (4, _), (5, _)]) (by decide) rfl dL_isLobby_7 ?_
  refine V_aload_n X rfl dL_isLobby_9 ?_
  refine V_callVp X (rest := _) (c_X5_clock _ _ _ al fi z hR) (hR.2.1 (15, 0) dm15) rfl gL_isLobby_X5_clock rfl hdv_X5_clock (Nat.le_of_ble_eq_true rfl) (Nat.le_of_ble_eq_true rfl) rfl (Nat.le_of_ble_eq_true rfl) dL_isLobby_10 ?_
  refine V.top (y := nI c) (hS.ck) ?_
  refine V_aload X rfl dL_isLobby_13 ?_
  refine V_iconst X (v := 0) (by decide) dL_isLobby_15 ?_
  refine V_ald X hA 6 (0) 4 (by decide) rfl (by omega) (hI.c0) dL_isLobby_16 ?_
  refine V_icmp_ne X (tgt := 46) (by decide) dL_isLobby_17 (fun hc17 => absurd hc17 (fun q => q rfl)) (fun hc17 => ?_)
  refine V_aload_n X rfl dL_isLobby_20 ?_
  refine V_callVp X (rest := _) (c_X5_players _ _ _ al fi z hR) (hR.2.1 (15, 0) dm15) rfl gL_isLobby_X5_players rfl hdv_X5_players (Nat.le_of_ble_eq_true rfl) (Nat.le_of_ble_eq_true rfl) rfl (Nat.le_of_ble_eq_true rfl) dL_isLobby_21 ?_
  refine V_aload X rfl dL_isLobby_24 ?_
  refine V_iconst X (v := 1) (by decide) dL_isLobby_26 ?_
  refine V_ald X hA 6 (1) 4 (by decide) rfl (by omega) (hI.c1) dL_isLobby_27 ?_
  refine V_icmp_ne X (tgt := 46) (by decide) dL_isLobby_28 (fun hc28 => absurd hc28 (fun q => q rfl)) (fun hc28 => ?_)
  refine V_aload_n X rfl dL_isLobby_31 ?_
  refine V_callVp X (rest := _) (c_X5_matches _ _ _ al fi z hR) (hR.2.1 (15, 0) dm15) rfl gL_isLobby_X5_matches rfl hdv_X5_matches (Nat.le_of_ble_eq_true rfl) (Nat.le_of_ble_eq_true rfl) rfl (Nat.le_of_ble_eq_true rfl) dL_isLobby_32 ?_
  refine V_aload X rfl dL_isLobby_35 ?_
  refine V_iconst X (v := 3) (by decide) dL_isLobby_37 ?_
  refine V_ald X hA 6 (3) 4 (by decide) rfl (by omega) (hI.c3) dL_isLobby_38 ?_
  refine V_icmp_ne X (tgt := 46) (by decide) dL_isLobby_39 (fun hc39 => absurd hc39 (fun q => q rfl)) (fun hc39 => ?_)
  refine V_iconst X (v := 1) (by decide) dL_isLobby_42 ?_
  refine V_goto X (tgt := 47) (by decide) dL_isLobby_43 ?_
  refine V_istore X (lv' := [(9, _), (8, _), (7, _), (6, _), (0, _), (1, _), (2, _), (3, _), (4, _), (5, _)]) (by decide) rfl dL_isLobby_47 ?_
  refine V_iconst X (v := 0) (by decide) dL_isLobby_49 ?_
  refine V_istore X (lv' := [(10, _), (9, _), (8, _), (7, _), (6, _), (0, _), (1, _), (2, _), (3, _), (4, _), (5, _)]) (by decide) rfl dL_isLobby_50 ?_
  refine V.lvs (lv' := [(0, _), (1, _), (2, _), (3, _), (4, _), (5, _), (6, _), (7, _), (8, _), (9, _), (10, _)]) rfl ?_
  exact L1 _ 0 rfl (Nat.zero_le _)
