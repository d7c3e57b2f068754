/-! ===== the law: step ===== -/
set_option maxHeartbeats 4000000 in
set_option maxRecDepth 100000 in
theorem c_L_step (l : Launch) (hl : l.stackTraces = false) (G : GG) (f : Wo) (A : Nat → Nat) (o c np nt nm : Nat) (hLW : LW G A o f c np nt nm) (hnt : nt < 60) (hcx : c + 30 ≤ 2000) (what x y : Nat) (hwh : what < 21) (hx : x < 1073741824) (hy : y < 1073741824) (hnp1 : what ≠ 0 → 0 < np) : Ct l yL_step wsL_step 30 697 G [.ref o, .int (nI what), .int (nI x), .int (nI y), .ref (A 0), .ref (A 1), .ref (A 2), .ref (A 3), .ref (A 4), .ref (A 5), .ref (A 6)] f (stP G A o c np nt what) 477 9550 := by
  refine Ct.of (cc := cL_step) (maxL := 15) (ret := (some .boolean)) (by decide) rfl (Nat.le_of_ble_eq_true rfl) (lv := [(0, _), (1, _), (2, _), (3, _), (4, _), (5, _), (6, _), (7, _), (8, _), (9, _), (10, _)]) rfl (by simp [Value.category]) ?_
  intro K X hL hG hr hnm
  subst hL; subst hG
  have hL3 := hLW
  have LB : ∀ (m p : Nat), m < nm → 0 < np → ∀ (n k : Nat), np - k = n → k ≤ np → ∀ f2 : Wo, LW (kG K) A o f2 c np nt nm → V K f2 (np - k) ((np - k) * 6) 545 [(0, .ref o), (1, .int (nI what)), (2, .int (nI x)), (3, .int (nI y)), (4, .ref (A 0)), (5, .ref (A 1)), (6, .ref (A 2)), (7, .ref (A 3)), (8, .ref (A 4)), (9, .ref (A 5)), (10, .ref (A 6)), (11, .int (nI m)), (12, .int (nI p)), (13, .int 1), (14, .int (nI k))] [] := by
    intro m p hm hnp0 n
    induction n using Nat.strongRecOn with
    | ind n ih =>
      intro k hn hi f2 hL2
      have hL3 := hL2
      obtain ⟨al, fi, z, sc, ar, lq, la, P, S, Q, M, rfl, hR, hA, hS, hB, rfl, rfl, rfl, hI⟩ := hL2
      have h18 := hI.np
      have h30 := hI.nm
      refine V_iload X rfl dL_step_545 ?_
      refine V_aload X rfl dL_step_547 ?_
      refine V_iconst X (v := 1) (by decide) dL_step_549 ?_
      refine V_ald X hA 6 (1) 4 (by decide) rfl (by omega) (hI.c1) dL_step_550 ?_
      refine V_icmp_ge X (tgt := 635) (by decide) dL_step_551 (fun hc551 => ?_) (fun hc551 => ?_)
      · refine V_iload X rfl dL_step_635 ?_
        exact V_zret X hr (by decide) (⟨rfl, c, (zN z 0), (zN z 1), (zN z 2), by omega, by omega, fun _ => hnp0, by omega, hL3⟩) dL_step_637
      · have hlt := lim_lt (N := zN z 0) rfl hc551 hi (by omega)
        refine V_iload X rfl dL_step_554 ?_
        refine V_if_eq X (tgt := 635) (by decide) dL_step_556 (fun hc556 => absurd hc556 (by decide)) (fun hc556 => ?_)
        refine V_iload_n X rfl dL_step_559 ?_
        refine V_iconst X (v := 5) (by decide) dL_step_560 ?_
        refine V_irem X (by decide) dL_step_561 ?_
        refine V_iconst X (v := 1) (by decide) dL_step_562 ?_
        refine V_icmp_le X (tgt := 635) (by decide) dL_step_563 (fun hc563 => ?_) (fun hc563 => ?_)
        · refine V_iload X rfl dL_step_635 ?_
          exact V_zret X hr (by decide) (⟨rfl, c, (zN z 0), (zN z 1), (zN z 2), by omega, by omega, fun _ => hnp0, by omega, hL3⟩) dL_step_637
        · refine V_aload X rfl dL_step_566 ?_
          refine V_iload X rfl dL_step_568 ?_
          refine V_ald X hA 1 (m) 31 (by decide) rfl (by omega) (rfl) dL_step_570 ?_
          refine V_aload X rfl dL_step_571 ?_
          refine V_iload X rfl dL_step_573 ?_
          refine V_ald X hA 4 (m) 31 (by decide) rfl (by omega) (rfl) dL_step_575 ?_
          refine V_iconst X (v := (-1)) (by decide) dL_step_576 ?_
          refine V_ixor X dL_step_577 ?_
          refine V_iand X dL_step_578 ?_
          refine V_iload X rfl dL_step_579 ?_
          refine V_callSp X (rest := _) (c_L_has _ _ _ _ _) gL_step_L_has rfl hds_L_has (Nat.le_of_ble_eq_true rfl) (Nat.le_of_ble_eq_true rfl) rfl (Nat.le_of_ble_eq_true rfl) dL_step_581 ?_
          refine V_if_eq X (tgt := 622) (by decide) dL_step_584 (fun hc584 => ?_) (fun hc584 => ?_)
          · refine V_iconst X (v := 1) (by decide) dL_step_622 ?_
            refine V_goto X (tgt := 627) (by decide) dL_step_623 ?_
            refine V_istore X (lv' := [(13, _), (0, _), (1, _), (2, _), (3, _), (4, _), (5, _), (6, _), (7, _), (8, _), (9, _), (10, _), (11, _), (12, _), (14, _)]) (by decide) rfl dL_step_627 ?_
            refine V_iinc X (lv' := [(14, _), (13, _), (0, _), (1, _), (2, _), (3, _), (4, _), (5, _), (6, _), (7, _), (8, _), (9, _), (10, _), (11, _), (12, _)]) (v := nI (k + 1)) rfl (nI_1 _) (by decide) rfl dL_step_629 ?_
            refine V_goto X (tgt := 545) (by decide) dL_step_632 ?_
            refine V.bud (kc' := zN z 0 - (k + 1)) (ks' := (zN z 0 - (k + 1)) * 6) (by omega) (by omega) ?_
            refine V.lvs (lv' := [(0, _), (1, _), (2, _), (3, _), (4, _), (5, _), (6, _), (7, _), (8, _), (9, _), (10, _), (11, _), (12, _), (13, _), (14, _)]) rfl ?_
            exact ih (zN z 0 - (k + 1)) (by omega) (k + 1) rfl (by omega) _ hL3
          · refine V_aload X rfl dL_step_587 ?_
            refine V_iload X rfl dL_step_589 ?_
            refine V_ald X hA 1 (m) 31 (by decide) rfl (by omega) (rfl) dL_step_591 ?_
            refine V_bipush X (v := 18) (by decide) dL_step_592 ?_
            refine V_ishr X dL_step_594 ?_
            refine V_iconst X (v := 3) (by decide) dL_step_595 ?_
            refine V_iand X dL_step_596 ?_
            refine V_if_ne X (tgt := 622) (by decide) dL_step_597 (fun hc597 => ?_) (fun hc597 => ?_)
            · refine V_iconst X (v := 1) (by decide) dL_step_622 ?_
              refine V_goto X (tgt := 627) (by decide) dL_step_623 ?_
              refine V_istore X (lv' := [(13, _), (0, _), (1, _), (2, _), (3, _), (4, _), (5, _), (6, _), (7, _), (8, _), (9, _), (10, _), (11, _), (12, _), (14, _)]) (by decide) rfl dL_step_627 ?_
              refine V_iinc X (lv' := [(14, _), (13, _), (0, _), (1, _), (2, _), (3, _), (4, _), (5, _), (6, _), (7, _), (8, _), (9, _), (10, _), (11, _), (12, _)]) (v := nI (k + 1)) rfl (nI_1 _) (by decide) rfl dL_step_629 ?_
              refine V_goto X (tgt := 545) (by decide) dL_step_632 ?_
              refine V.bud (kc' := zN z 0 - (k + 1)) (ks' := (zN z 0 - (k + 1)) * 6) (by omega) (by omega) ?_
              refine V.lvs (lv' := [(0, _), (1, _), (2, _), (3, _), (4, _), (5, _), (6, _), (7, _), (8, _), (9, _), (10, _), (11, _), (12, _), (13, _), (14, _)]) rfl ?_
              exact ih (zN z 0 - (k + 1)) (by omega) (k + 1) rfl (by omega) _ hL3
            · refine V_aload_n X rfl dL_step_600 ?_
              refine V_iload X rfl dL_step_601 ?_
              refine V_iload X rfl dL_step_603 ?_
              refine V_iconst X (v := 1) (by decide) dL_step_605 ?_
              refine V_aload X rfl dL_step_606 ?_
              refine V_aload X rfl dL_step_608 ?_
              refine V_aload X rfl dL_step_610 ?_
              refine V_aload X rfl dL_step_612 ?_
              refine V_aload X rfl dL_step_614 ?_
              refine V_callS (kc' := zN z 0 - (k + 1)) (ks' := (zN z 0 - (k + 1)) * 6) X (rest := _) (c_L_answers_a _ hl _ _ al fi z hR A lq la hA c sc ar hS hB P S Q M hI m k hm hlt) gL_step_L_answers rfl hds_L_answers (Nat.le_of_ble_eq_true rfl) (Nat.le_of_ble_eq_true rfl) rfl (Nat.le_of_ble_eq_true rfl) (by omega) (by omega) dL_step_616 (fun r9 f9 h9 => ?_)
              obtain ⟨rfl, hL4⟩ := h9
              refine V_if_eq X (tgt := 626) (by decide) dL_step_619 (fun hc619 => absurd hc619 (by decide)) (fun hc619 => ?_)
              refine V_iconst X (v := 1) (by decide) dL_step_622 ?_
              refine V_goto X (tgt := 627) (by decide) dL_step_623 ?_
              refine V_istore X (lv' := [(13, _), (0, _), (1, _), (2, _), (3, _), (4, _), (5, _), (6, _), (7, _), (8, _), (9, _), (10, _), (11, _), (12, _), (14, _)]) (by decide) rfl dL_step_627 ?_
              refine V_iinc X (lv' := [(14, _), (13, _), (0, _), (1, _), (2, _), (3, _), (4, _), (5, _), (6, _), (7, _), (8, _), (9, _), (10, _), (11, _), (12, _)]) (v := nI (k + 1)) rfl (nI_1 _) (by decide) rfl dL_step_629 ?_
              refine V_goto X (tgt := 545) (by decide) dL_step_632 ?_
              refine V.lvs (lv' := [(0, _), (1, _), (2, _), (3, _), (4, _), (5, _), (6, _), (7, _), (8, _), (9, _), (10, _), (11, _), (12, _), (13, _), (14, _)]) rfl ?_
              exact ih (zN z 0 - (k + 1)) (by omega) (k + 1) rfl (by omega) _ hL4
  obtain ⟨al, fi, z, sc, ar, lq, la, P, S, Q, M, rfl, hR, hA, hS, hB, rfl, rfl, rfl, hI⟩ := hLW
  have h18 := hI.np
  have h30 := hI.nm
  have h60 := hI.nt
  refine V_iload_n X rfl dL_step_0 ?_
  refine V_if_ne X (tgt := 139) (by decide) dL_step_1 (fun hc1 => ?_) (fun hc1 => ?_)
  · have hw0 : what ≠ 0 := fun q => hc1 (by rw [q]; rfl)
    have hnp0 : 0 < zN z 0 := hnp1 hw0
    have T692 : V K f 477 9550 692 [(0, .ref (al (15, 0))), (1, .int (nI what)), (2, .int (nI x)), (3, .int (nI y)), (4, .ref (A 0)), (5, .ref (A 1)), (6, .ref (A 2)), (7, .ref (A 3)), (8, .ref (A 4)), (9, .ref (A 5)), (10, .ref (A 6))] [] := by
      refine V_aload_n X rfl dL_step_692 ?_
      refine V.join (P := fun w => ∃ m, 1 ≤ m ∧ m ≤ 30 ∧ w = nI m) 717 (fun w717 hw717 => ?_) (fun hj717 => ?_)
      · obtain ⟨mi, mi1, mi2, rfl⟩ := hw717
        refine V_aload X rfl dL_step_717 ?_
        refine V_aload X rfl dL_step_719 ?_
        refine V_aload X rfl dL_step_721 ?_
        refine V_aload X rfl dL_step_723 ?_
        refine V_aload X rfl dL_step_725 ?_
        refine V_aload X rfl dL_step_727 ?_
        refine V_callS (kc' := 0) (ks' := 0) X (rest := _) (c_L_passes _ _ _ al fi z hR A lq la hA c sc ar hS hB P S Q M hI mi mi1 mi2 (by omega)) gL_step_L_passes rfl hds_L_passes (Nat.le_of_ble_eq_true rfl) (Nat.le_of_ble_eq_true rfl) rfl (Nat.le_of_ble_eq_true rfl) (by omega) (by omega) dL_step_729 (fun r9 f9 h9 => ?_)
        obtain ⟨rfl, hL4⟩ := h9
        exact V_zret X hr (by decide) (⟨rfl, (c + mi), (zN z 0), (zN z 1), (zN z 2), by omega, by omega, fun _ => hnp0, by omega, hL4⟩) dL_step_732
      · refine V_iload_n X rfl dL_step_693 ?_
        refine V_iconst X (v := 4) (by decide) dL_step_694 ?_
        refine V_irem X (by decide) dL_step_695 ?_
        refine V_if_ne X (tgt := 710) (by decide) dL_step_696 (fun hc696 => ?_) (fun hc696 => ?_)
        · refine V_iconst X (v := 1) (by decide) dL_step_710 ?_
          refine V_iload_n X rfl dL_step_711 ?_
          refine V_iconst X (v := 4) (by decide) dL_step_712 ?_
          refine V_idiv X (by decide) dL_step_713 ?_
          refine V.top (y := nI (y / 4)) (pk_div (d := 4) (by omega) (by decide) (by decide)) ?_
          refine V_iconst X (v := 3) (by decide) dL_step_714 ?_
          refine V_irem X (by decide) dL_step_715 ?_
          refine V.top (y := nI (y / 4 % 3)) (pk_rem (d := 3) (by omega) (by decide) (by decide)) ?_
          refine V_iadd X dL_step_716 ?_
          exact hj717 _ (⟨1 + y / 4 % 3, by omega, by omega, nI_add 1 _⟩)
        · refine V_iconst X (v := 1) (by decide) dL_step_699 ?_
          refine V_iload_n X rfl dL_step_700 ?_
          refine V_iconst X (v := 4) (by decide) dL_step_701 ?_
          refine V_idiv X (by decide) dL_step_702 ?_
          refine V.top (y := nI (y / 4)) (pk_div (d := 4) (by omega) (by decide) (by decide)) ?_
          refine V_bipush X (v := 30) (by decide) dL_step_703 ?_
          refine V_irem X (by decide) dL_step_705 ?_
          refine V.top (y := nI (y / 4 % 30)) (pk_rem (d := 30) (by omega) (by decide) (by decide)) ?_
          refine V_iadd X dL_step_706 ?_
          refine V_goto X (tgt := 717) (by decide) dL_step_707 ?_
          exact hj717 _ (⟨1 + y / 4 % 30, by omega, by omega, nI_add 1 _⟩)
    have T638 : V K f 477 9550 638 [(0, .ref (al (15, 0))), (1, .int (nI what)), (2, .int (nI x)), (3, .int (nI y)), (4, .ref (A 0)), (5, .ref (A 1)), (6, .ref (A 2)), (7, .ref (A 3)), (8, .ref (A 4)), (9, .ref (A 5)), (10, .ref (A 6))] [] := by
      refine V_iload_n X rfl dL_step_638 ?_
      refine V_bipush X (v := 18) (by decide) dL_step_639 ?_
      refine V_icmp_ge X (tgt := 692) (by decide) dL_step_641 (fun hc641 => ?_) (fun hc641 => ?_)
      · refine V.lvs (lv' := [(0, _), (1, _), (2, _), (3, _), (4, _), (5, _), (6, _), (7, _), (8, _), (9, _), (10, _)]) rfl ?_
        exact T692
      · refine V_aload X rfl dL_step_644 ?_
        refine V_iconst X (v := 3) (by decide) dL_step_646 ?_
        refine V_ald X hA 6 (3) 4 (by decide) rfl (by omega) (hI.c3) dL_step_647 ?_
        refine V_if_le X (tgt := 692) (by decide) dL_step_648 (fun hc648 => ?_) (fun hc648 => ?_)
        · refine V.lvs (lv' := [(0, _), (1, _), (2, _), (3, _), (4, _), (5, _), (6, _), (7, _), (8, _), (9, _), (10, _)]) rfl ?_
          exact T692
        · refine V.join (P := fun w => ∃ m, m < zN z 2 ∧ w = nI m) 674 (fun w674 hw674 => ?_) (fun hj674 => ?_)
          · obtain ⟨m, hm, rfl⟩ := hw674
            refine V_istore X (lv' := [(11, _), (0, _), (1, _), (2, _), (3, _), (4, _), (5, _), (6, _), (7, _), (8, _), (9, _), (10, _)]) (by decide) rfl dL_step_674 ?_
            have hy2 : y % 2 = 0 ∨ y % 2 = 1 := by omega
            have hcs : (y % 2 = 0 ∧ fi 13 m = 1) ∨ (y % 2 = 0 ∧ ¬ fi 13 m = 1) ∨ (y % 2 = 1 ∧ fi 13 m = 1) ∨ (y % 2 = 1 ∧ ¬ fi 13 m = 1) := by
              by_cases a : fi 13 m = 1
              · rcases hy2 with h | h
                · exact Or.inl ⟨h, a⟩
                · exact Or.inr (Or.inr (Or.inl ⟨h, a⟩))
              · rcases hy2 with h | h
                · exact Or.inr (Or.inl ⟨h, a⟩)
                · exact Or.inr (Or.inr (Or.inr ⟨h, a⟩))
            rcases hcs with ⟨hy, hst⟩ | ⟨hy, hst⟩ | ⟨hy, hst⟩ | ⟨hy, hst⟩
            · refine V_aload_n X rfl dL_step_676 ?_
              refine V_iload X rfl dL_step_677 ?_
              refine V_iload_n X rfl dL_step_679 ?_
              refine V_iconst X (v := 2) (by decide) dL_step_680 ?_
              refine V_irem X (by decide) dL_step_681 ?_
              refine V.top (y := 0) ((pk_rem (d := 2) (by omega) (by decide) (by decide)).trans (by rw [hy]; rfl)) ?_
              refine V_aload X rfl dL_step_682 ?_
              refine V_aload X rfl dL_step_684 ?_
              refine V_aload X rfl dL_step_686 ?_
              refine V_callS (kc' := 0) (ks' := 0) X (rest := _) (c_L_wins_y0 _ hl _ _ al fi z hR A lq la hA c sc ar hS hB P S Q M hI m hm hst) gL_step_L_wins rfl hds_L_wins (Nat.le_of_ble_eq_true rfl) (Nat.le_of_ble_eq_true rfl) rfl (Nat.le_of_ble_eq_true rfl) (by omega) (by omega) dL_step_688 (fun r9 f9 h9 => ?_)
              obtain ⟨rfl, hL4⟩ := h9
              exact V_zret X hr (by decide) (⟨rfl, c, (zN z 0), (zN z 1), (zN z 2), by omega, by omega, fun _ => hnp0, by omega, hL4⟩) dL_step_691
            · refine V_aload_n X rfl dL_step_676 ?_
              refine V_iload X rfl dL_step_677 ?_
              refine V_iload_n X rfl dL_step_679 ?_
              refine V_iconst X (v := 2) (by decide) dL_step_680 ?_
              refine V_irem X (by decide) dL_step_681 ?_
              refine V.top (y := 0) ((pk_rem (d := 2) (by omega) (by decide) (by decide)).trans (by rw [hy]; rfl)) ?_
              refine V_aload X rfl dL_step_682 ?_
              refine V_aload X rfl dL_step_684 ?_
              refine V_aload X rfl dL_step_686 ?_
              refine V_callS (kc' := 0) (ks' := 0) X (rest := _) (c_L_wins_n0 _ hl _ _ al fi z hR A lq la hA c sc ar hS hB P S Q M hI m hm hst) gL_step_L_wins rfl hds_L_wins (Nat.le_of_ble_eq_true rfl) (Nat.le_of_ble_eq_true rfl) rfl (Nat.le_of_ble_eq_true rfl) (by omega) (by omega) dL_step_688 (fun r9 f9 h9 => ?_)
              obtain ⟨rfl, hL4⟩ := h9
              exact V_zret X hr (by decide) (⟨rfl, c, (zN z 0), (zN z 1), (zN z 2), by omega, by omega, fun _ => hnp0, by omega, hL4⟩) dL_step_691
            · refine V_aload_n X rfl dL_step_676 ?_
              refine V_iload X rfl dL_step_677 ?_
              refine V_iload_n X rfl dL_step_679 ?_
              refine V_iconst X (v := 2) (by decide) dL_step_680 ?_
              refine V_irem X (by decide) dL_step_681 ?_
              refine V.top (y := 1) ((pk_rem (d := 2) (by omega) (by decide) (by decide)).trans (by rw [hy]; rfl)) ?_
              refine V_aload X rfl dL_step_682 ?_
              refine V_aload X rfl dL_step_684 ?_
              refine V_aload X rfl dL_step_686 ?_
              refine V_callS (kc' := 0) (ks' := 0) X (rest := _) (c_L_wins_y1 _ hl _ _ al fi z hR A lq la hA c sc ar hS hB P S Q M hI m hm hst) gL_step_L_wins rfl hds_L_wins (Nat.le_of_ble_eq_true rfl) (Nat.le_of_ble_eq_true rfl) rfl (Nat.le_of_ble_eq_true rfl) (by omega) (by omega) dL_step_688 (fun r9 f9 h9 => ?_)
              obtain ⟨rfl, hL4⟩ := h9
              exact V_zret X hr (by decide) (⟨rfl, c, (zN z 0), (zN z 1), (zN z 2), by omega, by omega, fun _ => hnp0, by omega, hL4⟩) dL_step_691
            · refine V_aload_n X rfl dL_step_676 ?_
              refine V_iload X rfl dL_step_677 ?_
              refine V_iload_n X rfl dL_step_679 ?_
              refine V_iconst X (v := 2) (by decide) dL_step_680 ?_
              refine V_irem X (by decide) dL_step_681 ?_
              refine V.top (y := 1) ((pk_rem (d := 2) (by omega) (by decide) (by decide)).trans (by rw [hy]; rfl)) ?_
              refine V_aload X rfl dL_step_682 ?_
              refine V_aload X rfl dL_step_684 ?_
              refine V_aload X rfl dL_step_686 ?_
              refine V_callS (kc' := 0) (ks' := 0) X (rest := _) (c_L_wins_n1 _ hl _ _ al fi z hR A lq la hA c sc ar hS hB P S Q M hI m hm hst) gL_step_L_wins rfl hds_L_wins (Nat.le_of_ble_eq_true rfl) (Nat.le_of_ble_eq_true rfl) rfl (Nat.le_of_ble_eq_true rfl) (by omega) (by omega) dL_step_688 (fun r9 f9 h9 => ?_)
              obtain ⟨rfl, hL4⟩ := h9
              exact V_zret X hr (by decide) (⟨rfl, c, (zN z 0), (zN z 1), (zN z 2), by omega, by omega, fun _ => hnp0, by omega, hL4⟩) dL_step_691
          · have hnm1 : 0 < zN z 2 := Nat.pos_of_ne_zero (fun q => hc648 (by rw [q]; decide))
            refine V_iload_n X rfl dL_step_651 ?_
            refine V_iconst X (v := 4) (by decide) dL_step_652 ?_
            refine V_irem X (by decide) dL_step_653 ?_
            refine V_if_ne X (tgt := 668) (by decide) dL_step_654 (fun hc654 => ?_) (fun hc654 => ?_)
            · refine V_aload X rfl dL_step_668 ?_
              refine V_iconst X (v := 3) (by decide) dL_step_670 ?_
              refine V_ald X hA 6 (3) 4 (by decide) rfl (by omega) (hI.c3) dL_step_671 ?_
              refine V_iconst X (v := 1) (by decide) dL_step_672 ?_
              refine V_isub X dL_step_673 ?_
              exact hj674 _ (⟨zN z 2 - 1, by omega, pk_sub (b := 1) (by omega)⟩)
            · refine V_iload_n X rfl dL_step_657 ?_
              refine V_iconst X (v := 4) (by decide) dL_step_658 ?_
              refine V_idiv X (by decide) dL_step_659 ?_
              refine V.top (y := nI (x / 4)) (pk_div (d := 4) (by omega) (by decide) (by decide)) ?_
              refine V_aload X rfl dL_step_660 ?_
              refine V_iconst X (v := 3) (by decide) dL_step_662 ?_
              refine V_ald X hA 6 (3) 4 (by decide) rfl (by omega) (hI.c3) dL_step_663 ?_
              refine V_irem X (nI_ne0 hnm1 (by omega)) dL_step_664 ?_
              refine V.top (y := nI (x / 4 % zN z 2)) (pk_rem (by omega) hnm1 (by omega)) ?_
              refine V_goto X (tgt := 674) (by decide) dL_step_665 ?_
              exact hj674 _ (⟨x / 4 % zN z 2, Nat.mod_lt _ hnm1, rfl⟩)
    have T386 : V K f 477 9550 386 [(0, .ref (al (15, 0))), (1, .int (nI what)), (2, .int (nI x)), (3, .int (nI y)), (4, .ref (A 0)), (5, .ref (A 1)), (6, .ref (A 2)), (7, .ref (A 3)), (8, .ref (A 4)), (9, .ref (A 5)), (10, .ref (A 6))] [] := by
      have T510 : ∀ (m p : Nat), m < zN z 2 → p < zN z 0 → V K f 477 9550 510 [(0, .ref (al (15, 0))), (1, .int (nI what)), (2, .int (nI x)), (3, .int (nI y)), (4, .ref (A 0)), (5, .ref (A 1)), (6, .ref (A 2)), (7, .ref (A 3)), (8, .ref (A 4)), (9, .ref (A 5)), (10, .ref (A 6)), (11, .int (nI m)), (12, .int (nI p))] [] := by
        intro m p hm hp
        refine V_aload_n X rfl dL_step_510 ?_
        refine V_iload X rfl dL_step_511 ?_
        refine V_iload X rfl dL_step_513 ?_
        refine V_iload_n X rfl dL_step_515 ?_
        refine V_bipush X (v := 12) (by decide) dL_step_516 ?_
        refine V_irem X (by decide) dL_step_518 ?_
        refine V_if_le X (tgt := 526) (by decide) dL_step_519 (fun hc519 => ?_) (fun hc519 => ?_)
        · refine V_iconst X (v := 0) (by decide) dL_step_526 ?_
          refine V_aload X rfl dL_step_527 ?_
          refine V_aload X rfl dL_step_529 ?_
          refine V_aload X rfl dL_step_531 ?_
          refine V_aload X rfl dL_step_533 ?_
          refine V_aload X rfl dL_step_535 ?_
          refine V_callS (kc' := 18) (ks' := 108) X (rest := _) (c_L_answers_d _ hl _ _ al fi z hR A lq la hA c sc ar hS hB P S Q M hI m p hm hp) gL_step_L_answers rfl hds_L_answers (Nat.le_of_ble_eq_true rfl) (Nat.le_of_ble_eq_true rfl) rfl (Nat.le_of_ble_eq_true rfl) (by omega) (by omega) dL_step_537 (fun r9 f9 h9 => ?_)
          obtain ⟨rfl, hL4⟩ := h9
          refine V_istore X (lv' := [(13, _), (0, _), (1, _), (2, _), (3, _), (4, _), (5, _), (6, _), (7, _), (8, _), (9, _), (10, _), (11, _), (12, _)]) (by decide) rfl dL_step_540 ?_
          refine V_iconst X (v := 0) (by decide) dL_step_542 ?_
          refine V_istore X (lv' := [(14, _), (13, _), (0, _), (1, _), (2, _), (3, _), (4, _), (5, _), (6, _), (7, _), (8, _), (9, _), (10, _), (11, _), (12, _)]) (by decide) rfl dL_step_543 ?_
          refine V.bud (kc' := zN z 0 - 0) (ks' := (zN z 0 - 0) * 6) (by omega) (by omega) ?_
          refine V.lvs (lv' := [(0, _), (1, _), (2, _), (3, _), (4, _), (5, _), (6, _), (7, _), (8, _), (9, _), (10, _), (11, _), (12, _), (13, _), (14, _)]) rfl ?_
          exact LB m p hm hnp0 _ 0 rfl (Nat.zero_le _) _ hL4
        · refine V_iconst X (v := 1) (by decide) dL_step_522 ?_
          refine V_goto X (tgt := 527) (by decide) dL_step_523 ?_
          refine V_aload X rfl dL_step_527 ?_
          refine V_aload X rfl dL_step_529 ?_
          refine V_aload X rfl dL_step_531 ?_
          refine V_aload X rfl dL_step_533 ?_
          refine V_aload X rfl dL_step_535 ?_
          refine V_callS (kc' := 18) (ks' := 108) X (rest := _) (c_L_answers_a _ hl _ _ al fi z hR A lq la hA c sc ar hS hB P S Q M hI m p hm hp) gL_step_L_answers rfl hds_L_answers (Nat.le_of_ble_eq_true rfl) (Nat.le_of_ble_eq_true rfl) rfl (Nat.le_of_ble_eq_true rfl) (by omega) (by omega) dL_step_537 (fun r9 f9 h9 => ?_)
          obtain ⟨rfl, hL4⟩ := h9
          refine V_istore X (lv' := [(13, _), (0, _), (1, _), (2, _), (3, _), (4, _), (5, _), (6, _), (7, _), (8, _), (9, _), (10, _), (11, _), (12, _)]) (by decide) rfl dL_step_540 ?_
          refine V_iconst X (v := 0) (by decide) dL_step_542 ?_
          refine V_istore X (lv' := [(14, _), (13, _), (0, _), (1, _), (2, _), (3, _), (4, _), (5, _), (6, _), (7, _), (8, _), (9, _), (10, _), (11, _), (12, _)]) (by decide) rfl dL_step_543 ?_
          refine V.bud (kc' := zN z 0 - 0) (ks' := (zN z 0 - 0) * 6) (by omega) (by omega) ?_
          refine V.lvs (lv' := [(0, _), (1, _), (2, _), (3, _), (4, _), (5, _), (6, _), (7, _), (8, _), (9, _), (10, _), (11, _), (12, _), (13, _), (14, _)]) rfl ?_
          exact LB m p hm hnp0 _ 0 rfl (Nat.zero_le _) _ hL4
      have L438 : ∀ (m : Nat), m < zN z 2 → ∀ (n i : Nat), zN z 0 - i = n → i ≤ zN z 0 → ∀ p, p < zN z 0 → V K f 477 9550 438 [(0, .ref (al (15, 0))), (1, .int (nI what)), (2, .int (nI x)), (3, .int (nI y)), (4, .ref (A 0)), (5, .ref (A 1)), (6, .ref (A 2)), (7, .ref (A 3)), (8, .ref (A 4)), (9, .ref (A 5)), (10, .ref (A 6)), (11, .int (nI m)), (12, .int (nI p)), (13, .int (nI i))] [] := by
        intro m hm n
        induction n using Nat.strongRecOn with
        | ind n ih =>
          intro i hn hi p hp
          refine V_iload X rfl dL_step_438 ?_
          refine V_aload X rfl dL_step_440 ?_
          refine V_iconst X (v := 1) (by decide) dL_step_442 ?_
          refine V_ald X hA 6 (1) 4 (by decide) rfl (by omega) (hI.c1) dL_step_443 ?_
          refine V_icmp_ge X (tgt := 510) (by decide) dL_step_444 (fun hc444 => ?_) (fun hc444 => ?_)
          · refine V.lvs (lv' := [(0, _), (1, _), (2, _), (3, _), (4, _), (5, _), (6, _), (7, _), (8, _), (9, _), (10, _), (11, _), (12, _)]) rfl ?_
            exact T510 m p hm hp
          · have hlt := lim_lt (N := zN z 0) rfl hc444 hi (by omega)
            refine V_iload_n X rfl dL_step_447 ?_
            refine V_bipush X (v := 8) (by decide) dL_step_448 ?_
            refine V_irem X (by decide) dL_step_450 ?_
            refine V_if_le X (tgt := 510) (by decide) dL_step_451 (fun hc451 => ?_) (fun hc451 => ?_)
            · refine V.lvs (lv' := [(0, _), (1, _), (2, _), (3, _), (4, _), (5, _), (6, _), (7, _), (8, _), (9, _), (10, _), (11, _), (12, _)]) rfl ?_
              exact T510 m p hm hp
            · refine V.join (P := fun w => ∃ p, p < zN z 0 ∧ w = nI p) 502 (fun w502 hw502 => ?_) (fun hj502 => ?_)
              · obtain ⟨pj, hpj, rfl⟩ := hw502
                refine V_istore X (lv' := [(12, _), (0, _), (1, _), (2, _), (3, _), (4, _), (5, _), (6, _), (7, _), (8, _), (9, _), (10, _), (11, _), (13, _)]) (by decide) rfl dL_step_502 ?_
                refine V_iinc X (lv' := [(13, _), (12, _), (0, _), (1, _), (2, _), (3, _), (4, _), (5, _), (6, _), (7, _), (8, _), (9, _), (10, _), (11, _)]) (v := nI (i + 1)) rfl (nI_1 _) (by decide) rfl dL_step_504 ?_
                refine V_goto X (tgt := 438) (by decide) dL_step_507 ?_
                refine V.lvs (lv' := [(0, _), (1, _), (2, _), (3, _), (4, _), (5, _), (6, _), (7, _), (8, _), (9, _), (10, _), (11, _), (12, _), (13, _)]) rfl ?_
                exact ih (zN z 0 - (i + 1)) (by omega) (i + 1) rfl (by omega) pj hpj
              · refine V_aload X rfl dL_step_454 ?_
                refine V_iload X rfl dL_step_456 ?_
                refine V_ald X hA 1 (m) 31 (by decide) rfl (by omega) (rfl) dL_step_458 ?_
                refine V_aload X rfl dL_step_459 ?_
                refine V_iload X rfl dL_step_461 ?_
                refine V_ald X hA 4 (m) 31 (by decide) rfl (by omega) (rfl) dL_step_463 ?_
                refine V_iconst X (v := (-1)) (by decide) dL_step_464 ?_
                refine V_ixor X dL_step_465 ?_
                refine V_iand X dL_step_466 ?_
                refine V_iload_n X rfl dL_step_467 ?_
                refine V_bipush X (v := 40) (by decide) dL_step_468 ?_
                refine V_idiv X (by decide) dL_step_470 ?_
                refine V.top (y := nI (x / 40)) (pk_div (d := 40) (by omega) (by decide) (by decide)) ?_
                refine V_iload X rfl dL_step_471 ?_
                refine V_iadd X dL_step_473 ?_
                refine V.top (y := nI (x / 40 + i)) (nI_add _ _) ?_
                refine V_aload X rfl dL_step_474 ?_
                refine V_iconst X (v := 1) (by decide) dL_step_476 ?_
                refine V_ald X hA 6 (1) 4 (by decide) rfl (by omega) (hI.c1) dL_step_477 ?_
                refine V_irem X (nI_ne0 hnp0 (by omega)) dL_step_478 ?_
                refine V.top (y := nI ((x / 40 + i) % zN z 0)) (pk_rem (by omega) hnp0 (by omega)) ?_
                refine V_callSp X (rest := _) (c_L_has _ _ _ _ _) gL_step_L_has rfl hds_L_has (Nat.le_of_ble_eq_true rfl) (Nat.le_of_ble_eq_true rfl) rfl (Nat.le_of_ble_eq_true rfl) dL_step_479 ?_
                refine V_if_eq X (tgt := 500) (by decide) dL_step_482 (fun hc482 => ?_) (fun hc482 => ?_)
                · refine V_iload X rfl dL_step_500 ?_
                  exact hj502 _ (⟨p, hp, rfl⟩)
                · refine V_iload_n X rfl dL_step_485 ?_
                  refine V_bipush X (v := 40) (by decide) dL_step_486 ?_
                  refine V_idiv X (by decide) dL_step_488 ?_
                  refine V.top (y := nI (x / 40)) (pk_div (d := 40) (by omega) (by decide) (by decide)) ?_
                  refine V_iload X rfl dL_step_489 ?_
                  refine V_iadd X dL_step_491 ?_
                  refine V.top (y := nI (x / 40 + i)) (nI_add _ _) ?_
                  refine V_aload X rfl dL_step_492 ?_
                  refine V_iconst X (v := 1) (by decide) dL_step_494 ?_
                  refine V_ald X hA 6 (1) 4 (by decide) rfl (by omega) (hI.c1) dL_step_495 ?_
                  refine V_irem X (nI_ne0 hnp0 (by omega)) dL_step_496 ?_
                  refine V.top (y := nI ((x / 40 + i) % zN z 0)) (pk_rem (by omega) hnp0 (by omega)) ?_
                  refine V_goto X (tgt := 502) (by decide) dL_step_497 ?_
                  exact hj502 _ (⟨_, Nat.mod_lt _ hnp0, rfl⟩)
      refine V_iload_n X rfl dL_step_386 ?_
      refine V_bipush X (v := 16) (by decide) dL_step_387 ?_
      refine V_icmp_ge X (tgt := 638) (by decide) dL_step_389 (fun hc389 => ?_) (fun hc389 => ?_)
      · refine V.lvs (lv' := [(0, _), (1, _), (2, _), (3, _), (4, _), (5, _), (6, _), (7, _), (8, _), (9, _), (10, _)]) rfl ?_
        exact T638
      · refine V_aload X rfl dL_step_392 ?_
        refine V_iconst X (v := 3) (by decide) dL_step_394 ?_
        refine V_ald X hA 6 (3) 4 (by decide) rfl (by omega) (hI.c3) dL_step_395 ?_
        refine V_if_le X (tgt := 638) (by decide) dL_step_396 (fun hc396 => ?_) (fun hc396 => ?_)
        · refine V.lvs (lv' := [(0, _), (1, _), (2, _), (3, _), (4, _), (5, _), (6, _), (7, _), (8, _), (9, _), (10, _)]) rfl ?_
          exact T638
        · refine V.join (P := fun w => ∃ m, m < zN z 2 ∧ w = nI m) 422 (fun w422 hw422 => ?_) (fun hj422 => ?_)
          · obtain ⟨m, hm, rfl⟩ := hw422
            refine V_istore X (lv' := [(11, _), (0, _), (1, _), (2, _), (3, _), (4, _), (5, _), (6, _), (7, _), (8, _), (9, _), (10, _)]) (by decide) rfl dL_step_422 ?_
            refine V_iload_n X rfl dL_step_424 ?_
            refine V_bipush X (v := 40) (by decide) dL_step_425 ?_
            refine V_idiv X (by decide) dL_step_427 ?_
            refine V.top (y := nI (x / 40)) (pk_div (d := 40) (by omega) (by decide) (by decide)) ?_
            refine V_aload X rfl dL_step_428 ?_
            refine V_iconst X (v := 1) (by decide) dL_step_430 ?_
            refine V_ald X hA 6 (1) 4 (by decide) rfl (by omega) (hI.c1) dL_step_431 ?_
            refine V_irem X (nI_ne0 hnp0 (by omega)) dL_step_432 ?_
            refine V.top (y := nI (x / 40 % zN z 0)) (pk_rem (by omega) hnp0 (by omega)) ?_
            refine V_istore X (lv' := [(12, _), (11, _), (0, _), (1, _), (2, _), (3, _), (4, _), (5, _), (6, _), (7, _), (8, _), (9, _), (10, _)]) (by decide) rfl dL_step_433 ?_
            refine V_iconst X (v := 0) (by decide) dL_step_435 ?_
            refine V_istore X (lv' := [(13, _), (12, _), (11, _), (0, _), (1, _), (2, _), (3, _), (4, _), (5, _), (6, _), (7, _), (8, _), (9, _), (10, _)]) (by decide) rfl dL_step_436 ?_
            refine V.lvs (lv' := [(0, _), (1, _), (2, _), (3, _), (4, _), (5, _), (6, _), (7, _), (8, _), (9, _), (10, _), (11, _), (12, _), (13, _)]) rfl ?_
            exact L438 m hm _ 0 rfl (Nat.zero_le _) _ (Nat.mod_lt _ hnp0)
          · have hnm1 : 0 < zN z 2 := Nat.pos_of_ne_zero (fun q => hc396 (by rw [q]; decide))
            refine V_iload_n X rfl dL_step_399 ?_
            refine V_iconst X (v := 5) (by decide) dL_step_400 ?_
            refine V_irem X (by decide) dL_step_401 ?_
            refine V_if_ne X (tgt := 416) (by decide) dL_step_402 (fun hc402 => ?_) (fun hc402 => ?_)
            · refine V_aload X rfl dL_step_416 ?_
              refine V_iconst X (v := 3) (by decide) dL_step_418 ?_
              refine V_ald X hA 6 (3) 4 (by decide) rfl (by omega) (hI.c3) dL_step_419 ?_
              refine V_iconst X (v := 1) (by decide) dL_step_420 ?_
              refine V_isub X dL_step_421 ?_
              exact hj422 _ (⟨zN z 2 - 1, by omega, pk_sub (b := 1) (by omega)⟩)
            · refine V_iload_n X rfl dL_step_405 ?_
              refine V_iconst X (v := 5) (by decide) dL_step_406 ?_
              refine V_idiv X (by decide) dL_step_407 ?_
              refine V.top (y := nI (x / 5)) (pk_div (d := 5) (by omega) (by decide) (by decide)) ?_
              refine V_aload X rfl dL_step_408 ?_
              refine V_iconst X (v := 3) (by decide) dL_step_410 ?_
              refine V_ald X hA 6 (3) 4 (by decide) rfl (by omega) (hI.c3) dL_step_411 ?_
              refine V_irem X (nI_ne0 hnm1 (by omega)) dL_step_412 ?_
              refine V.top (y := nI (x / 5 % zN z 2)) (pk_rem (by omega) hnm1 (by omega)) ?_
              refine V_goto X (tgt := 422) (by decide) dL_step_413 ?_
              exact hj422 _ (⟨x / 5 % zN z 2, Nat.mod_lt _ hnm1, rfl⟩)
    have T331 : V K f 477 9550 331 [(0, .ref (al (15, 0))), (1, .int (nI what)), (2, .int (nI x)), (3, .int (nI y)), (4, .ref (A 0)), (5, .ref (A 1)), (6, .ref (A 2)), (7, .ref (A 3)), (8, .ref (A 4)), (9, .ref (A 5)), (10, .ref (A 6))] [] := by
      refine V_iload_n X rfl dL_step_331 ?_
      refine V_bipush X (v := 9) (by decide) dL_step_332 ?_
      refine V_icmp_ge X (tgt := 386) (by decide) dL_step_334 (fun hc334 => ?_) (fun hc334 => ?_)
      · refine V.lvs (lv' := [(0, _), (1, _), (2, _), (3, _), (4, _), (5, _), (6, _), (7, _), (8, _), (9, _), (10, _)]) rfl ?_
        exact T386
      · refine V_aload X rfl dL_step_337 ?_
        refine V_aload X rfl dL_step_339 ?_
        refine V_iconst X (v := 3) (by decide) dL_step_341 ?_
        refine V_ald X hA 6 (3) 4 (by decide) rfl (by omega) (hI.c3) dL_step_342 ?_
        refine V_aload X rfl dL_step_343 ?_
        refine V_iconst X (v := 0) (by decide) dL_step_345 ?_
        refine V_ald X hA 6 (0) 4 (by decide) rfl (by omega) (hI.c0) dL_step_346 ?_
        refine V_ast X hA 5 ((zN z 2)) 31 (by decide) rfl (by omega) dL_step_347 (fun f hA hFA => ?_)
        have hR := hR.keepA hFA
        have c31 : fu la 5 (zN z 2) (nI c) 6 3 = nI (zN z 2) := (fu_ne _ _ (Or.inl (by decide))).trans hI.c3
        refine V_aload X rfl dL_step_348 ?_
        refine V_aload X rfl dL_step_350 ?_
        refine V_iconst X (v := 3) (by decide) dL_step_352 ?_
        refine V_ald X hA 6 (3) 4 (by decide) rfl (by omega) (c31) dL_step_353 ?_
        refine V_iconst X (v := 0) (by decide) dL_step_354 ?_
        refine V_ast X hA 4 ((zN z 2)) 31 (by decide) rfl (by omega) dL_step_355 (fun f hA hFA => ?_)
        have hR := hR.keepA hFA
        have hI := hI.pre (nI c) 0
        have c32 := hI.c3
        refine V_aload X rfl dL_step_356 ?_
        refine V_iconst X (v := 3) (by decide) dL_step_358 ?_
        refine V_ald X hA 6 (3) 4 (by decide) rfl (by omega) (c32) dL_step_359 ?_
        refine V_bipush X (v := 30) (by decide) dL_step_360 ?_
        refine V_icmp_eq X (tgt := 380) (by decide) dL_step_362 (fun hc362 => ?_) (fun hc362 => ?_)
        · refine V_iconst X (v := 1) (by decide) dL_step_380 ?_
          refine V_goto X (tgt := 385) (by decide) dL_step_381 ?_
          exact V_zret X hr (by decide) (⟨rfl, c, (zN z 0), (zN z 1), (zN z 2), by omega, by omega, fun _ => hnp0, by omega, ⟨al, fi, z, sc, ar, lq, _, P, S, Q, M, rfl, hR, hA, hS, hB, rfl, rfl, rfl, hI⟩⟩) dL_step_385
        · have hn30 : zN z 2 < 30 := by
            rcases Nat.lt_or_eq_of_le h30 with h | h
            · exact h
            · exact absurd (by rw [h]; rfl) hc362
          refine V_aload_n X rfl dL_step_365 ?_
          refine V_aload X rfl dL_step_366 ?_
          refine V_aload X rfl dL_step_368 ?_
          refine V_aload X rfl dL_step_370 ?_
          refine V_aload X rfl dL_step_372 ?_
          refine V_callS (kc' := 0) (ks' := 0) X (rest := _) (c_L_makes _ _ _ al fi z hR A lq _ hA c sc ar hS hB P S Q M hI hn30 (fu_self _ _ _ _) ((fu_ne _ _ (Or.inl (by decide))).trans (fu_self _ _ _ _))) gL_step_L_makes rfl hds_L_makes (Nat.le_of_ble_eq_true rfl) (Nat.le_of_ble_eq_true rfl) rfl (Nat.le_of_ble_eq_true rfl) (by omega) (by omega) dL_step_374 (fun r9 f9 h9 => ?_)
          obtain ⟨rfl, nm2, hnm2, hL4⟩ := h9
          refine V_if_eq X (tgt := 384) (by decide) dL_step_377 (fun hc377 => absurd hc377 (by decide)) (fun hc377 => ?_)
          refine V_iconst X (v := 1) (by decide) dL_step_380 ?_
          refine V_goto X (tgt := 385) (by decide) dL_step_381 ?_
          exact V_zret X hr (by decide) (⟨rfl, c, (zN z 0), (zN z 1), nm2, by omega, by omega, fun _ => hnp0, by omega, hL4⟩) dL_step_385
    have T223 : V K f 477 9550 223 [(0, .ref (al (15, 0))), (1, .int (nI what)), (2, .int (nI x)), (3, .int (nI y)), (4, .ref (A 0)), (5, .ref (A 1)), (6, .ref (A 2)), (7, .ref (A 3)), (8, .ref (A 4)), (9, .ref (A 5)), (10, .ref (A 6))] [] := by
      refine V_iload_n X rfl dL_step_223 ?_
      refine V_bipush X (v := 6) (by decide) dL_step_224 ?_
      refine V_icmp_ne X (tgt := 331) (by decide) dL_step_226 (fun hc226 => ?_) (fun hc226 => ?_)
      · refine V.lvs (lv' := [(0, _), (1, _), (2, _), (3, _), (4, _), (5, _), (6, _), (7, _), (8, _), (9, _), (10, _)]) rfl ?_
        exact T331
      · refine V_aload X rfl dL_step_229 ?_
        refine V_iconst X (v := 2) (by decide) dL_step_231 ?_
        refine V_ald X hA 6 (2) 4 (by decide) rfl (by omega) (hI.c2) dL_step_232 ?_
        refine V_if_eq X (tgt := 242) (by decide) dL_step_233 (fun hc233 => ?_) (fun hc233 => ?_)
        · refine V_iconst X (v := 1) (by decide) dL_step_242 ?_
          exact V_zret X hr (by decide) (⟨rfl, c, (zN z 0), (zN z 1), (zN z 2), by omega, by omega, fun _ => hnp0, by omega, hL3⟩) dL_step_243
        · refine V_iload_n X rfl dL_step_236 ?_
          refine V_iconst X (v := 3) (by decide) dL_step_237 ?_
          refine V_irem X (by decide) dL_step_238 ?_
          refine V_if_le X (tgt := 244) (by decide) dL_step_239 (fun hc239 => ?_) (fun hc239 => ?_)
          · have hnt1 : 0 < zN z 1 := Nat.pos_of_ne_zero (fun q => hc233 (by rw [q]; rfl))
            have hp : (x % zN z 1) < zN z 1 := Nat.mod_lt _ hnt1
            refine V_iload_n X rfl dL_step_244 ?_
            refine V_aload X rfl dL_step_245 ?_
            refine V_iconst X (v := 2) (by decide) dL_step_247 ?_
            refine V_ald X hA 6 (2) 4 (by decide) rfl (by omega) (hI.c2) dL_step_248 ?_
            refine V_irem X (nI_ne0 hnt1 (by omega)) dL_step_249 ?_
            refine V.top (y := nI (x % zN z 1)) (pk_rem (by omega) hnt1 (by omega)) ?_
            refine V_istore X (lv' := [(11, _), (0, _), (1, _), (2, _), (3, _), (4, _), (5, _), (6, _), (7, _), (8, _), (9, _), (10, _)]) (by decide) rfl dL_step_250 ?_
            by_cases hq : Q (x % zN z 1) = 1
            · refine V_aload X rfl dL_step_252 ?_
              refine V_iload X rfl dL_step_254 ?_
              refine V_callSp X (rest := _) (c_L_queues _ _ _ A _ _ hA (x % zN z 1) (by omega) (P (x % zN z 1)) (S (x % zN z 1)) (Q (x % zN z 1)) (M (x % zN z 1)) (hI.ok hp) (hI.q hp)) gL_step_L_queues rfl hds_L_queues (Nat.le_of_ble_eq_true rfl) (Nat.le_of_ble_eq_true rfl) rfl (Nat.le_of_ble_eq_true rfl) dL_step_256 ?_
              refine V.top (y := 1) (by rw [decide_eq_true hq]; rfl) ?_
              refine V_istore X (lv' := [(12, _), (11, _), (0, _), (1, _), (2, _), (3, _), (4, _), (5, _), (6, _), (7, _), (8, _), (9, _), (10, _)]) (by decide) rfl dL_step_259 ?_
              refine V_aload_n X rfl dL_step_261 ?_
              refine V_iconst X (v := 1) (by decide) dL_step_262 ?_
              refine V_iload X rfl dL_step_263 ?_
              refine V_iconst X (v := 0) (by decide) dL_step_265 ?_
              refine V_callSH (kc' := 0) (ks' := 0) X (rest := _) (c_L_asks_l _ _ _ al fi z hR (x % zN z 1) 0 hp ((SI.q1 hS hI hp).mp hq)) gL_step_L_asks rfl hds_L_asks (Nat.le_of_ble_eq_true rfl) (Nat.le_of_ble_eq_true rfl) rfl (Nat.le_of_ble_eq_true rfl) (by omega) (by omega) dL_step_266 (fun r9 f9 h9 => ?_)
              obtain ⟨rfl, hR, hF9⟩ := h9
              have hA := hA.fr hF9
              have hlea := ST.lea hS hB hI hp ((SI.q1 hS hI hp).mp hq)
              refine V_istore X (lv' := [(13, _), (12, _), (11, _), (0, _), (1, _), (2, _), (3, _), (4, _), (5, _), (6, _), (7, _), (8, _), (9, _), (10, _)]) (by decide) rfl dL_step_269 ?_
              refine V_aload X rfl dL_step_271 ?_
              refine V_iload X rfl dL_step_273 ?_
              refine V_iload X rfl dL_step_275 ?_
              refine V_if_eq X (tgt := 292) (by decide) dL_step_277 (fun hc277 => absurd hc277 (by decide)) (fun hc277 => ?_)
              refine V_aload X rfl dL_step_280 ?_
              refine V_iload X rfl dL_step_282 ?_
              refine V_qld X hA ((x % zN z 1)) (by omega) (hI.q hp) dL_step_284 ?_
              refine V_ldc2 X (v := (-1099511627777)) (by decide +kernel) dL_step_285 ?_
              refine V_land X dL_step_288 ?_
              refine V.topl (y := lN (eN (P (x % zN z 1)) (S (x % zN z 1)) 0 (M (x % zN z 1)))) (j_clr (hI.ok hp)) ?_
              refine V_goto X (tgt := 297) (by decide) dL_step_289 ?_
              refine V_qst X hA ((x % zN z 1)) (by omega) dL_step_297 (fun f hA hFA => ?_)
              have hR := hR.keepA hFA
              refine V_iload X rfl dL_step_298 ?_
              refine V_iload X rfl dL_step_300 ?_
              refine V_if_eq X (tgt := 320) (by decide) dL_step_302 (fun hc302 => absurd hc302 (by decide)) (fun hc302 => ?_)
              refine V_aload X rfl dL_step_305 ?_
              refine V_iconst X (v := 0) (by decide) dL_step_307 ?_
              refine V_ald X hA 6 (0) 4 (by decide) rfl (by omega) (hI.c0) dL_step_308 ?_
              refine V_aload X rfl dL_step_309 ?_
              refine V_iload X rfl dL_step_311 ?_
              refine V_callSp X (rest := _) (c_L_since _ _ _ A _ _ hA (x % zN z 1) (by omega) (P (x % zN z 1)) (S (x % zN z 1)) 0 (M (x % zN z 1)) (eOk0 (hI.ok hp)) (va_up_self _ _ _)) gL_step_L_since rfl hds_L_since (Nat.le_of_ble_eq_true rfl) (Nat.le_of_ble_eq_true rfl) rfl (Nat.le_of_ble_eq_true rfl) dL_step_313 ?_
              refine V_isub X dL_step_316 ?_
              refine V_goto X (tgt := 322) (by decide) dL_step_317 ?_
              refine V_icmp_ne X (tgt := 329) (by decide) dL_step_322 (fun hc322 => absurd hc322 (fun q => q (by rw [hS.ck, SI.s6 hS hI hp]))) (fun hc322 => ?_)
              refine V_iconst X (v := 1) (by decide) dL_step_325 ?_
              refine V_goto X (tgt := 330) (by decide) dL_step_326 ?_
              exact V_zret X hr (by decide) (⟨rfl, c, (zN z 0), (zN z 1), (zN z 2), by omega, by omega, fun _ => hnp0, by omega, ⟨al, _, z, sc, _, _, la, P, S, _, M, rfl, hR, hA, hlea.1, hlea.2.1, rfl, rfl, rfl, hlea.2.2⟩⟩) dL_step_330
            · refine V_aload X rfl dL_step_252 ?_
              refine V_iload X rfl dL_step_254 ?_
              refine V_callSp X (rest := _) (c_L_queues _ _ _ A _ _ hA (x % zN z 1) (by omega) (P (x % zN z 1)) (S (x % zN z 1)) (Q (x % zN z 1)) (M (x % zN z 1)) (hI.ok hp) (hI.q hp)) gL_step_L_queues rfl hds_L_queues (Nat.le_of_ble_eq_true rfl) (Nat.le_of_ble_eq_true rfl) rfl (Nat.le_of_ble_eq_true rfl) dL_step_256 ?_
              refine V.top (y := 0) (by rw [decide_eq_false hq]; rfl) ?_
              refine V_istore X (lv' := [(12, _), (11, _), (0, _), (1, _), (2, _), (3, _), (4, _), (5, _), (6, _), (7, _), (8, _), (9, _), (10, _)]) (by decide) rfl dL_step_259 ?_
              refine V_aload_n X rfl dL_step_261 ?_
              refine V_iconst X (v := 1) (by decide) dL_step_262 ?_
              refine V_iload X rfl dL_step_263 ?_
              refine V_iconst X (v := 0) (by decide) dL_step_265 ?_
              refine V_callSH (kc' := 0) (ks' := 0) X (rest := _) (c_L_asks_l_s _ hl _ _ al fi z hR (x % zN z 1) 0 hp (fun q => hq ((SI.q1 hS hI hp).mpr q))) gL_step_L_asks rfl hds_L_asks (Nat.le_of_ble_eq_true rfl) (Nat.le_of_ble_eq_true rfl) rfl (Nat.le_of_ble_eq_true rfl) (by omega) (by omega) dL_step_266 (fun r9 f9 h9 => ?_)
              obtain ⟨rfl, h9e⟩ := h9
              have h9f := h9e.symm
              subst h9f
              refine V_istore X (lv' := [(13, _), (12, _), (11, _), (0, _), (1, _), (2, _), (3, _), (4, _), (5, _), (6, _), (7, _), (8, _), (9, _), (10, _)]) (by decide) rfl dL_step_269 ?_
              refine V_aload X rfl dL_step_271 ?_
              refine V_iload X rfl dL_step_273 ?_
              refine V_iload X rfl dL_step_275 ?_
              refine V_if_eq X (tgt := 292) (by decide) dL_step_277 (fun hc277 => ?_) (fun hc277 => absurd hc277 (by decide))
              refine V_aload X rfl dL_step_292 ?_
              refine V_iload X rfl dL_step_294 ?_
              refine V_qld X hA ((x % zN z 1)) (by omega) (hI.q hp) dL_step_296 ?_
              refine V_qst X hA ((x % zN z 1)) (by omega) dL_step_297 (fun f hA hFA => ?_)
              have hR := hR.keepA hFA
              rw [up_sm (hI.q hp)] at hA
              refine V_iload X rfl dL_step_298 ?_
              refine V_iload X rfl dL_step_300 ?_
              refine V_if_eq X (tgt := 320) (by decide) dL_step_302 (fun hc302 => ?_) (fun hc302 => absurd hc302 (by decide))
              refine V_bipush X (v := (-8)) (by decide) dL_step_320 ?_
              refine V_icmp_ne X (tgt := 329) (by decide) dL_step_322 (fun hc322 => absurd hc322 (fun q => q rfl)) (fun hc322 => ?_)
              refine V_iconst X (v := 1) (by decide) dL_step_325 ?_
              refine V_goto X (tgt := 330) (by decide) dL_step_326 ?_
              exact V_zret X hr (by decide) (⟨rfl, c, (zN z 0), (zN z 1), (zN z 2), by omega, by omega, fun _ => hnp0, by omega, ⟨al, fi, z, sc, ar, lq, la, P, S, Q, M, rfl, hR, hA, hS, hB, rfl, rfl, rfl, hI⟩⟩) dL_step_330
          · refine V_iconst X (v := 1) (by decide) dL_step_242 ?_
            exact V_zret X hr (by decide) (⟨rfl, c, (zN z 0), (zN z 1), (zN z 2), by omega, by omega, fun _ => hnp0, by omega, hL3⟩) dL_step_243
    have T139 : V K f 477 9550 139 [(0, .ref (al (15, 0))), (1, .int (nI what)), (2, .int (nI x)), (3, .int (nI y)), (4, .ref (A 0)), (5, .ref (A 1)), (6, .ref (A 2)), (7, .ref (A 3)), (8, .ref (A 4)), (9, .ref (A 5)), (10, .ref (A 6))] [] := by
      refine V_iload_n X rfl dL_step_139 ?_
      refine V_bipush X (v := 6) (by decide) dL_step_140 ?_
      refine V_icmp_ge X (tgt := 223) (by decide) dL_step_142 (fun hc142 => ?_) (fun hc142 => ?_)
      · refine V.lvs (lv' := [(0, _), (1, _), (2, _), (3, _), (4, _), (5, _), (6, _), (7, _), (8, _), (9, _), (10, _)]) rfl ?_
        exact T223
      · refine V_aload_n X rfl dL_step_145 ?_
        refine V_aload X rfl dL_step_146 ?_
        refine V_aload X rfl dL_step_148 ?_
        refine V_iload_n X rfl dL_step_150 ?_
        refine V_iconst X (v := 1) (by decide) dL_step_151 ?_
        refine V_iload_n X rfl dL_step_152 ?_
        refine V_iconst X (v := 3) (by decide) dL_step_153 ?_
        refine V_irem X (by decide) dL_step_154 ?_
        refine V.top (y := nI (y % 3)) (pk_rem (d := 3) (by omega) (by decide) (by decide)) ?_
        refine V_iadd X dL_step_155 ?_
        refine V.top (y := nI (1 + y % 3)) (nI_add 1 _) ?_
        refine V_callS (kc' := 477) (ks' := 9550) X (rest := _) (c_L_free _ _ _ al fi z hR A lq la hA (zN z 0) c rfl hnp0 h18 hI.c0 hI.c1 x (1 + y % 3) hx (by omega)) gL_step_L_free rfl hds_L_free (Nat.le_of_ble_eq_true rfl) (Nat.le_of_ble_eq_true rfl) rfl (Nat.le_of_ble_eq_true rfl) (by omega) (by omega) dL_step_156 (fun r9 f9 h9 => ?_)
        obtain ⟨⟨Y0, hY1, rfl, hY3, hY4⟩, h9e⟩ := h9
        have h9f := h9e.symm
        subst h9f
        refine V_istore X (lv' := [(11, _), (0, _), (1, _), (2, _), (3, _), (4, _), (5, _), (6, _), (7, _), (8, _), (9, _), (10, _)]) (by decide) rfl dL_step_159 ?_
        refine V.join (P := fun w => ∃ Y, Y < 262144 ∧ q_bw (zN z 0) (nI Y) ∧ (JQ (nI Y) 18).length ≤ 3 ∧ w = nI Y) 195 (fun w195 hw195 => ?_) (fun hj195 => ?_)
        · obtain ⟨Y, y1, y2, y3, rfl⟩ := hw195
          refine V_istore X (lv' := [(11, _), (0, _), (1, _), (2, _), (3, _), (4, _), (5, _), (6, _), (7, _), (8, _), (9, _), (10, _)]) (by decide) rfl dL_step_195 ?_
          refine V_iload X rfl dL_step_197 ?_
          refine V_if_eq X (tgt := 217) (by decide) dL_step_199 (fun hc199 => ?_) (fun hc199 => ?_)
          · refine V_iconst X (v := 1) (by decide) dL_step_217 ?_
            refine V_goto X (tgt := 222) (by decide) dL_step_218 ?_
            exact V_zret X hr (by decide) (⟨rfl, c, (zN z 0), (zN z 1), (zN z 2), by omega, by omega, fun _ => hnp0, by omega, hL3⟩) dL_step_222
          · refine V_aload_n X rfl dL_step_202 ?_
            refine V_iload X rfl dL_step_203 ?_
            refine V_aload X rfl dL_step_205 ?_
            refine V_aload X rfl dL_step_207 ?_
            refine V_aload X rfl dL_step_209 ?_
            refine V_callS (kc' := 0) (ks' := 0) X (rest := _) (c_L_queueing _ hl _ _ al fi z hR A lq la hA c sc ar hS hB P S Q M hI Y y1 (fun q => hc199 (by rw [q]; rfl)) y2 y3 hnt) gL_step_L_queueing rfl hds_L_queueing (Nat.le_of_ble_eq_true rfl) (Nat.le_of_ble_eq_true rfl) rfl (Nat.le_of_ble_eq_true rfl) (by omega) (by omega) dL_step_211 (fun r9 f9 h9 => ?_)
            obtain ⟨rfl, nt2, hnt2, hL4⟩ := h9
            refine V_if_eq X (tgt := 221) (by decide) dL_step_214 (fun hc214 => absurd hc214 (by decide)) (fun hc214 => ?_)
            refine V_iconst X (v := 1) (by decide) dL_step_217 ?_
            refine V_goto X (tgt := 222) (by decide) dL_step_218 ?_
            exact V_zret X hr (by decide) (⟨rfl, c, (zN z 0), nt2, (zN z 2), by omega, by omega, fun _ => hnp0, by omega, hL4⟩) dL_step_222
        · refine V_iload_n X rfl dL_step_161 ?_
          refine V_iconst X (v := 3) (by decide) dL_step_162 ?_
          refine V_idiv X (by decide) dL_step_163 ?_
          refine V_bipush X (v := 6) (by decide) dL_step_164 ?_
          refine V_irem X (by decide) dL_step_166 ?_
          refine V_if_ne X (tgt := 193) (by decide) dL_step_167 (fun hc167 => ?_) (fun hc167 => ?_)
          · refine V_iload X rfl dL_step_193 ?_
            exact hj195 _ (⟨Y0, hY1, hY3, by omega, rfl⟩)
          · refine V_iconst X (v := 1) (by decide) dL_step_170 ?_
            refine V_iload_n X rfl dL_step_171 ?_
            refine V_aload X rfl dL_step_172 ?_
            refine V_iconst X (v := 1) (by decide) dL_step_174 ?_
            refine V_ald X hA 6 (1) 4 (by decide) rfl (by omega) (hI.c1) dL_step_175 ?_
            refine V_irem X (nI_ne0 hnp0 (by omega)) dL_step_176 ?_
            refine V.top (y := nI (x % zN z 0)) (pk_rem (by omega) hnp0 (by omega)) ?_
            refine V_ishl X dL_step_177 ?_
            refine V.top (y := nI (2 ^ (x % zN z 0))) (nI_shl (by have := Nat.mod_lt x hnp0; omega)) ?_
            refine V_iconst X (v := 1) (by decide) dL_step_178 ?_
            refine V_iload_n X rfl dL_step_179 ?_
            refine V_bipush X (v := 18) (by decide) dL_step_180 ?_
            refine V_idiv X (by decide) dL_step_182 ?_
            refine V.top (y := nI (y / 18)) (pk_div (d := 18) (by omega) (by decide) (by decide)) ?_
            refine V_aload X rfl dL_step_183 ?_
            refine V_iconst X (v := 1) (by decide) dL_step_185 ?_
            refine V_ald X hA 6 (1) 4 (by decide) rfl (by omega) (hI.c1) dL_step_186 ?_
            refine V_irem X (nI_ne0 hnp0 (by omega)) dL_step_187 ?_
            refine V.top (y := nI (y / 18 % zN z 0)) (pk_rem (by omega) hnp0 (by omega)) ?_
            refine V_ishl X dL_step_188 ?_
            refine V.top (y := nI (2 ^ (y / 18 % zN z 0))) (nI_shl (by have := Nat.mod_lt (y / 18) hnp0; omega)) ?_
            refine V_ior X dL_step_189 ?_
            refine V_goto X (tgt := 195) (by decide) dL_step_190 ?_
            exact hj195 _ (two_bits (Nat.mod_lt _ hnp0) (Nat.mod_lt _ hnp0) h18)
    refine V.lvs (lv' := [(0, _), (1, _), (2, _), (3, _), (4, _), (5, _), (6, _), (7, _), (8, _), (9, _), (10, _)]) rfl ?_
    exact T139
  · refine V_aload X rfl dL_step_4 ?_
    refine V_iconst X (v := 1) (by decide) dL_step_6 ?_
    refine V_ald X hA 6 (1) 4 (by decide) rfl (by omega) (hI.c1) dL_step_7 ?_
    refine V_bipush X (v := 18) (by decide) dL_step_8 ?_
    refine V_icmp_ne X (tgt := 15) (by decide) dL_step_10 (fun hc10 => ?_) (fun hc10 => ?_)
    · have h17 : zN z 0 < 18 := by
        rcases Nat.lt_or_eq_of_le h18 with h | h
        · exact h
        · exact absurd (by rw [h]; rfl) hc10
      have hcc := hS.2.2.2.2.2.2.1
      refine V_aload X rfl dL_step_15 ?_
      refine V_aload X rfl dL_step_17 ?_
      refine V_iconst X (v := 1) (by decide) dL_step_19 ?_
      refine V_ald X hA 6 (1) 4 (by decide) rfl (by omega) (hI.c1) dL_step_20 ?_
      refine V.join (P := fun w => ∃ ro, 1 ≤ ro ∧ ro ≤ 7 ∧ w = nI ro) 40 (fun w40 hw40 => ?_) (fun hj40 => ?_)
      · obtain ⟨ro, ro1, ro7, rfl⟩ := hw40
        refine V_ast X hA 2 ((zN z 0)) 18 (by decide) rfl (by omega) dL_step_40 (fun f hA hFA => ?_)
        have hR := hR.keepA hFA
        refine V_aload X rfl dL_step_41 ?_
        refine V_iconst X (v := 1) (by decide) dL_step_43 ?_
        refine V_dup2 X rfl rfl dL_step_44 ?_
        refine V_ald X hA 6 (1) 4 (by decide) rfl (by omega) (((fu_ne _ _ (Or.inl (by decide))).trans hI.c1)) dL_step_45 ?_
        refine V_iconst X (v := 1) (by decide) dL_step_46 ?_
        refine V_iadd X dL_step_47 ?_
        refine V.top (y := nI (zN z 0 + 1)) (nI_1 _) ?_
        refine V_ast X hA 6 (1) 4 (by decide) rfl (by omega) dL_step_48 (fun f hA hFA => ?_)
        have hR := hR.keepA hFA
        refine V.join (P := fun w => ∃ R, R ≤ 4000 ∧ w = nI R) 76 (fun w76 hw76 => ?_) (fun hj76 => ?_)
        · obtain ⟨R, hR4, rfl⟩ := hw76
          refine V_istore X (lv' := [(11, _), (0, _), (1, _), (2, _), (3, _), (4, _), (5, _), (6, _), (7, _), (8, _), (9, _), (10, _)]) (by decide) rfl dL_step_76 ?_
          have hadd := ST.add (cap := cap2 (zC z (13, 0)) (zN z 0)) hS hB hI h17 hR4 ro1 ro7 (cap2_le25 hS.2.2.2.2.2.2.1 (by omega))
          refine V_aload_n X rfl dL_step_78 ?_
          refine V_iload X rfl dL_step_79 ?_
          refine V_aload X rfl dL_step_81 ?_
          refine V_aload X rfl dL_step_83 ?_
          refine V_iconst X (v := 1) (by decide) dL_step_85 ?_
          refine V_ald X hA 6 (1) 4 (by decide) rfl (by omega) (fu_self _ _ _ _) dL_step_86 ?_
          refine V_iconst X (v := 1) (by decide) dL_step_87 ?_
          refine V_isub X dL_step_88 ?_
          refine V.top (y := nI (zN z 0)) (nI_pred _) ?_
          refine V_ald X hA 2 ((zN z 0)) 18 (by decide) rfl (by omega) ((fu_ne _ _ (Or.inl (by decide))).trans (fu_self _ _ _ _)) dL_step_89 ?_
          refine V_callV (kc' := 0) (ks' := 0) X (rest := _) (c_X5_addPlayer_t _ _ _ al fi z hR (nI R) (nI ro) (nI_pos' (by omega)) (nI_le (b := 4000) hR4 (by decide)) (nI_le (a := 1) ro1 (by omega)) (nI_le (b := 7) ro7 (by decide)) h17 hcc) (hR.2.1 (15, 0) dm15) rfl gL_step_X5_addPlayer rfl hdv_X5_addPlayer (Nat.le_of_ble_eq_true rfl) (Nat.le_of_ble_eq_true rfl) rfl (Nat.le_of_ble_eq_true rfl) (by omega) (by omega) dL_step_90 (fun r9 f9 h9 => ?_)
          obtain ⟨al2, rfl, hal, hR, hF9⟩ := h9
          have hA := hA.fr hF9
          rw [← hal]
          refine V_aload X rfl dL_step_93 ?_
          refine V_iconst X (v := 1) (by decide) dL_step_95 ?_
          refine V_ald X hA 6 (1) 4 (by decide) rfl (by omega) (fu_self _ _ _ _) dL_step_96 ?_
          refine V_iconst X (v := 1) (by decide) dL_step_97 ?_
          refine V_isub X dL_step_98 ?_
          refine V.top (y := nI (zN z 0)) (nI_pred _) ?_
          refine V_icmp_ne X (tgt := 137) (by decide) dL_step_99 (fun hc99 => absurd hc99 (fun q => q rfl)) (fun hc99 => ?_)
          refine V_aload_n X rfl dL_step_102 ?_
          refine V_aload X rfl dL_step_103 ?_
          refine V_iconst X (v := 1) (by decide) dL_step_105 ?_
          refine V_ald X hA 6 (1) 4 (by decide) rfl (by omega) (fu_self _ _ _ _) dL_step_106 ?_
          refine V_iconst X (v := 1) (by decide) dL_step_107 ?_
          refine V_isub X dL_step_108 ?_
          refine V.top (y := nI (zN z 0)) (nI_pred _) ?_
          refine V_callVp X (rest := _) (c_X5_rating_t _ _ _ al2 _ _ hR (zN z 0) (Nat.lt_succ_self _)) (hR.2.1 (15, 0) dm15) rfl gL_step_X5_rating rfl hdv_X5_rating (Nat.le_of_ble_eq_true rfl) (Nat.le_of_ble_eq_true rfl) rfl (Nat.le_of_ble_eq_true rfl) dL_step_109 ?_
          refine V.top (y := nI R) (adF_r _ _ _ _) ?_
          refine V_iload X rfl dL_step_112 ?_
          refine V_icmp_ne X (tgt := 137) (by decide) dL_step_114 (fun hc114 => absurd hc114 (fun q => q rfl)) (fun hc114 => ?_)
          refine V_aload_n X rfl dL_step_117 ?_
          refine V_aload X rfl dL_step_118 ?_
          refine V_iconst X (v := 1) (by decide) dL_step_120 ?_
          refine V_ald X hA 6 (1) 4 (by decide) rfl (by omega) (fu_self _ _ _ _) dL_step_121 ?_
          refine V_iconst X (v := 1) (by decide) dL_step_122 ?_
          refine V_isub X dL_step_123 ?_
          refine V.top (y := nI (zN z 0)) (nI_pred _) ?_
          refine V_callVp X (rest := _) (c_X5_uncertainty_t _ _ _ al2 _ _ hR (zN z 0) (Nat.lt_succ_self _)) (hR.2.1 (15, 0) dm15) rfl gL_step_X5_uncertainty rfl hdv_X5_uncertainty (Nat.le_of_ble_eq_true rfl) (Nat.le_of_ble_eq_true rfl) rfl (Nat.le_of_ble_eq_true rfl) dL_step_124 ?_
          refine V.top (y := 350) (adF_u _ _ _ _) ?_
          refine V_sipush X (v := 350) (by decide) dL_step_127 ?_
          refine V_icmp_ne X (tgt := 137) (by decide) dL_step_130 (fun hc130 => absurd hc130 (fun q => q rfl)) (fun hc130 => ?_)
          refine V_iconst X (v := 1) (by decide) dL_step_133 ?_
          refine V_goto X (tgt := 138) (by decide) dL_step_134 ?_
          exact V_zret X hr (by decide) (⟨rfl, c, (zN z 0 + 1), (zN z 1), (zN z 2), by omega, by omega, fun _ => by omega, by omega, ⟨al2, _, _, _, _, lq, _, P, S, Q, M, hal, hR, hA, hadd.1, hadd.2.1, rfl, rfl, rfl, hadd.2.2⟩⟩) dL_step_138
        · refine V_iload_n X rfl dL_step_49 ?_
          refine V_iconst X (v := 4) (by decide) dL_step_50 ?_
          refine V_irem X (by decide) dL_step_51 ?_
          refine V_if_ne X (tgt := 65) (by decide) dL_step_52 (fun hc52 => ?_) (fun hc52 => ?_)
          · refine V_sipush X (v := 1000) (by decide) dL_step_65 ?_
            refine V_iload_n X rfl dL_step_68 ?_
            refine V_iconst X (v := 4) (by decide) dL_step_69 ?_
            refine V_idiv X (by decide) dL_step_70 ?_
            refine V.top (y := nI (x / 4)) (pk_div (d := 4) (by omega) (by decide) (by decide)) ?_
            refine V_sipush X (v := 300) (by decide) dL_step_71 ?_
            refine V_irem X (by decide) dL_step_74 ?_
            refine V.top (y := nI (x / 4 % 300)) (pk_rem (d := 300) (by omega) (by decide) (by decide)) ?_
            refine V_iadd X dL_step_75 ?_
            exact hj76 _ (⟨1000 + x / 4 % 300, by omega, nI_add 1000 _⟩)
          · refine V_iload_n X rfl dL_step_55 ?_
            refine V_iconst X (v := 4) (by decide) dL_step_56 ?_
            refine V_idiv X (by decide) dL_step_57 ?_
            refine V.top (y := nI (x / 4)) (pk_div (d := 4) (by omega) (by decide) (by decide)) ?_
            refine V_sipush X (v := 4001) (by decide) dL_step_58 ?_
            refine V_irem X (by decide) dL_step_61 ?_
            refine V.top (y := nI (x / 4 % 4001)) (pk_rem (d := 4001) (by omega) (by decide) (by decide)) ?_
            refine V_goto X (tgt := 76) (by decide) dL_step_62 ?_
            exact hj76 _ (⟨x / 4 % 4001, by omega, rfl⟩)
      · refine V_iload_n X rfl dL_step_21 ?_
        refine V_iconst X (v := 2) (by decide) dL_step_22 ?_
        refine V_irem X (by decide) dL_step_23 ?_
        refine V_if_ne X (tgt := 32) (by decide) dL_step_24 (fun hc24 => ?_) (fun hc24 => ?_)
        · refine V_iconst X (v := 1) (by decide) dL_step_32 ?_
          refine V_iload_n X rfl dL_step_33 ?_
          refine V_iconst X (v := 2) (by decide) dL_step_34 ?_
          refine V_idiv X (by decide) dL_step_35 ?_
          refine V.top (y := nI (y / 2)) (pk_div (d := 2) (by omega) (by decide) (by decide)) ?_
          refine V_bipush X (v := 7) (by decide) dL_step_36 ?_
          refine V_irem X (by decide) dL_step_38 ?_
          refine V.top (y := nI (y / 2 % 7)) (pk_rem (d := 7) (by omega) (by decide) (by decide)) ?_
          refine V_iadd X dL_step_39 ?_
          exact hj40 _ (⟨1 + y / 2 % 7, by omega, by omega, nI_add 1 _⟩)
        · refine V_bipush X (v := 7) (by decide) dL_step_27 ?_
          refine V_goto X (tgt := 40) (by decide) dL_step_29 ?_
          exact hj40 _ (⟨7, by decide, by decide, rfl⟩)
    · refine V_iconst X (v := 1) (by decide) dL_step_13 ?_
      exact V_zret X hr (by decide) (⟨rfl, c, (zN z 0), (zN z 1), (zN z 2), by omega, by omega, fun _ => by have := (nI_eq (b := 18) (by omega) (by decide)).mp hc10; omega, by omega, hL3⟩) dL_step_14
