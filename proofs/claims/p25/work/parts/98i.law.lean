/-! ===== the law: isMatch ===== -/
set_option maxHeartbeats 4000000 in
set_option maxRecDepth 100000 in
theorem c_L_isMatch (l : Launch) (G : GG) (f : Wo) (al : Tg → Nat) (fi : Nat → Nat → Int32) (z : CZ) (hR : RC G al fi z f) (A : Nat → Nat) (lq : Nat → Int64) (la : Nat → Nat → Int32) (hA : LA G A lq la f) (c : Nat) (oi : Nat → Nat → Int32) (oz : CZ) (sc : Nat → Int32) (ar : Nat → Nat → Int32) (hS : SM c oi oz sc ar) (P S Q M : Nat → Nat) (hI : IV c (zN oz 0) (zN oz 1) (zN oz 2) ar lq la P S Q M) (hz0 : zN z 0 = zN oz 0) (h1 : fi 1 = oi 1) (mm : Nat) (hmm : mm < zN z 2) (hd : Nat) (R : List Nat) (p0 : Nat → Bool) (hsub : (hd :: R).Sublist (q_Q oi (zN oz 1))) (h6 : q_sN (q_ln oz) (hd :: R) = 6) (hft : ∀ t ∈ (hd :: R), ftC oi oz (nI c) t hd = true) (hok : okS oi oz (hd :: R.filter p0) (R.filter (fun t => !p0 t)) = true) (hmin : ∀ p : Nat → Bool, okS oi oz (hd :: R.filter p) (R.filter (fun t => !p t)) = true → q_far oi oz (hd :: R.filter p0) (R.filter (fun t => !p0 t)) ≤ q_far oi oz (hd :: R.filter p) (R.filter (fun t => !p t)) ∧ (eaR R p p0 → q_far oi oz (hd :: R.filter p0) (R.filter (fun t => !p0 t)) < q_far oi oz (hd :: R.filter p) (R.filter (fun t => !p t)))) (h9 : fi 9 mm = q_U (oi 5) (hd :: R.filter p0)) (h10 : fi 10 mm = q_U (oi 5) (R.filter (fun t => !p0 t))) (h11 : fi 11 mm = q_far oi oz (hd :: R.filter p0) (R.filter (fun t => !p0 t))) : Ct l yL_isMatch wsL_isMatch 13 250 G [.ref (al (15, 0)), .ref (A 0), .ref (A 2), .ref (A 6), .int (nI mm)] f (fun r f' => r = some (.int 1) ∧ FrN f f') 130 390 := by
  refine Ct.of (cc := cL_isMatch) (maxL := 19) (ret := (some .boolean)) (by decide) rfl (Nat.le_of_ble_eq_true rfl) (lv := [(0, _), (1, _), (2, _), (3, _), (4, _)]) rfl (by simp [Value.category]) ?_
  intro K X hL hG hr hnm
  subst hL; subst hG
  have h18 := hI.np
  have h60 := hI.nt
  have h2k := hI.cc
  have hT : ∀ t ∈ (hd :: R), t < zN oz 1 ∧ oi 7 t = 1 := fun t ht => q_Q_m.mp (hsub.subset ht)
  have hTs : (hd :: R).Pairwise (· < ·) := (q_Q_lt _ _).sublist hsub
  have hTd : (hd :: R).Pairwise (q_dj (oi 5)) := hS.Qdj.sublist hsub
  have hAs : (hd :: R.filter p0).Sublist (hd :: R) := List.filter_sublist.cons₂ hd
  have hBs : (R.filter (fun t => !p0 t)).Sublist (hd :: R) := List.filter_sublist.cons hd
  have hTA : ∀ t ∈ (hd :: R.filter p0), t < zN oz 1 ∧ oi 7 t = 1 := fun t ht => hT t (hAs.subset ht)
  have hTB : ∀ t ∈ (R.filter (fun t => !p0 t)), t < zN oz 1 ∧ oi 7 t = 1 := fun t ht => hT t (hBs.subset ht)
  have hmem : ∀ t, t ∈ (hd :: R) ↔ t ∈ (hd :: R.filter p0) ∨ t ∈ (R.filter (fun t => !p0 t)) := fun t => ⟨fun q => by
      rcases List.mem_cons.mp q with q | q
      · exact Or.inl (by rw [q]; exact List.mem_cons_self)
      · cases hp : p0 t with
        | true => exact Or.inl (List.mem_cons_of_mem _ (List.mem_filter.mpr ⟨q, hp⟩))
        | false => exact Or.inr (List.mem_filter.mpr ⟨q, by rw [hp]; rfl⟩), fun q => q.elim (fun q => hAs.subset q) (fun q => hBs.subset q)⟩
  have hsp : ∀ i, i < zN oz 1 → (i ∈ (hd :: R) ∧ oi 7 i = 1) ∨ (i ∉ (hd :: R) ∧ oi 7 i = 1) ∨ (i ∉ (hd :: R) ∧ ¬ oi 7 i = 1) := fun i hi => by
    by_cases h : i ∈ (hd :: R)
    · exact Or.inl ⟨h, (hT i h).2⟩
    · by_cases h7 : oi 7 i = 1
      · exact Or.inr (Or.inl ⟨h, h7⟩)
      · exact Or.inr (Or.inr ⟨h, h7⟩)
  have hsp4 : ∀ i, i < zN oz 1 → (i ∈ (hd :: R.filter p0) ∧ i ∈ (hd :: R) ∧ oi 7 i = 1) ∨ (i ∈ (R.filter (fun t => !p0 t)) ∧ i ∉ (hd :: R.filter p0) ∧ i ∈ (hd :: R) ∧ oi 7 i = 1) ∨ (i ∉ (hd :: R) ∧ oi 7 i = 1) ∨ (i ∉ (hd :: R) ∧ ¬ oi 7 i = 1) := fun i hi => by
    rcases hsp i hi with ⟨h, h7⟩ | h | h
    · by_cases ha : i ∈ (hd :: R.filter p0)
      · exact Or.inl ⟨ha, h, h7⟩
      · exact Or.inr (Or.inl ⟨((hmem i).mp h).resolve_left ha, ha, h, h7⟩)
    · exact Or.inr (Or.inr (Or.inl h))
    · exact Or.inr (Or.inr (Or.inr h))
  have hpA : ∀ t ∈ R, decide (t ∈ (hd :: R.filter p0)) = p0 t := fun t ht => by
    have hnd := (List.nodup_cons.mp ((q_Q_nd _).sublist hsub)).1
    have hne : t ≠ hd := fun q => hnd (by rw [← q]; exact ht)
    cases hp : p0 t with
    | true => exact decide_eq_true (List.mem_cons_of_mem _ (List.mem_filter.mpr ⟨ht, hp⟩))
    | false => exact decide_eq_false (fun q => by
        have := (List.mem_filter.mp ((List.mem_cons.mp q).resolve_left hne)).2
        rw [hp] at this; cases this)
  have hl6 : (hd :: R).length ≤ 6 := by have := len6 hS (fun t ht => (hT t ht).1); omega
  have hp64 : 2 ^ (hd :: R).length ≤ 2 ^ 6 := Nat.pow_le_pow_right (by decide) hl6
  have hro : ∀ k, k < zN oz 0 → la 2 k = ar 3 k ∧ ∃ r, 0 < r ∧ r < 8 ∧ ar 3 k = nI r := fun k hk => ⟨(hI.pl hk).1, by
      obtain ⟨r, r1, r2, r3⟩ := (hS.pl hk).2.2.2.2.2.2.2
      exact ⟨r, r1, r2, (hS.pl hk).2.2.1.symm.trans r3⟩⟩
  obtain ⟨xa, ha1, ha2, ha3, ha4, ha5⟩ := PK.set hS (hTd.sublist hAs) (fun t ht => (hTA t ht).1)
  obtain ⟨xb, hb1, hb2, hb3, hb4, hb5⟩ := PK.set hS (hTd.sublist hBs) (fun t ht => (hTB t ht).1)
  have hokA : q_tA oi oz (hd :: R.filter p0) = true ∧ q_tA oi oz (R.filter (fun t => !p0 t)) = true := by unfold okS at hok; exact Bool.and_eq_true_iff.mp hok
  have hfar : absI (smI 18 (nI xa) (fi 1) - smI 18 (nI xb) (fi 1)) = q_far oi oz (hd :: R.filter p0) (R.filter (fun t => !p0 t)) := by rw [h1, ← ha2, ← hb2]; exact PK.far hS (hTd.sublist hAs) (hTd.sublist hBs) (fun t ht => (hTA t ht).1) (fun t ht => (hTB t ht).1)
  have LC : ∀ (n w : Nat), 2 ^ (hd :: R).length - w = n → w ≤ 2 ^ (hd :: R).length → ∀ f1 : Wo, FrN f f1 → V K f1 (2 * (64 - w)) (6 * (64 - w)) 344 [(0, .ref (al (15, 0))), (1, .ref (A 0)), (2, .ref (A 2)), (3, .ref (A 6)), (4, .int (nI mm)), (5, .int (nI xa)), (6, .int (nI xb)), (7, .int (nI hd)), (8, .int (q_U (oi 5) (hd :: R))), (9, .int (nI (hd :: R).length)), (10, .int 1), (11, .int (q_far oi oz (hd :: R.filter p0) (R.filter (fun t => !p0 t)))), (12, .int (nI w))] [] := by
    intro n
    induction n using Nat.strongRecOn with
    | ind n ih =>
      intro w hn hw f1 hN
      have hR := hR.keepA hN.a
      have hA := hA.fr hN.c
      refine V_iload X rfl dL_isMatch_344 ?_
      refine V_iconst X (v := 1) (by decide) dL_isMatch_346 ?_
      refine V_iload X rfl dL_isMatch_347 ?_
      refine V_ishl X dL_isMatch_349 ?_
      refine V.top (y := nI (2 ^ (hd :: R).length)) (nI_shl (by omega)) ?_
      refine V_icmp_ge X (tgt := 584) (by decide) dL_isMatch_350 (fun hc350 => ?_) (fun hc350 => ?_)
      · refine V_iload X rfl dL_isMatch_584 ?_
        exact V_zret X hr (by decide) (⟨rfl, hN⟩) dL_isMatch_586
      · have hlt2 : w < 2 ^ (hd :: R).length := lim_lt (N := 2 ^ (hd :: R).length) rfl hc350 hw (by omega)
        obtain ⟨xt, ht1, ht2, ht3, ht4, ht5⟩ := PK.set hS (hTd.sublist List.filter_sublist : ((hd :: R).filter (fun t => w.testBit ((hd :: R).idxOf t))).Pairwise (q_dj (oi 5))) (fun t ht => (hT t ((List.mem_filter.mp ht).1)).1)
        obtain ⟨xr, hr1, hr2, hr3, hr4, hr5⟩ := PK.set hS (hTd.sublist List.filter_sublist : ((hd :: R).filter (fun t => !w.testBit ((hd :: R).idxOf t))).Pairwise (q_dj (oi 5))) (fun t ht => (hT t ((List.mem_filter.mp ht).1)).1)
        have hfar : absI (smI 18 (nI xt) (fi 1) - smI 18 (nI xr) (fi 1)) = q_far oi oz ((hd :: R).filter (fun t => w.testBit ((hd :: R).idxOf t))) ((hd :: R).filter (fun t => !w.testBit ((hd :: R).idxOf t))) := by rw [h1, ← ht2, ← hr2]; exact PK.far hS (hTd.sublist List.filter_sublist) (hTd.sublist List.filter_sublist) (fun t ht => (hT t ((List.mem_filter.mp ht).1)).1) (fun t ht => (hT t ((List.mem_filter.mp ht).1)).1)
        have TE : V K f1 (2 * (64 - w)) (6 * (64 - w)) 485 [(0, .ref (al (15, 0))), (1, .ref (A 0)), (2, .ref (A 2)), (3, .ref (A 6)), (4, .int (nI mm)), (5, .int (nI xa)), (6, .int (nI xb)), (7, .int (nI hd)), (8, .int (q_U (oi 5) (hd :: R))), (9, .int (nI (hd :: R).length)), (10, .int 1), (11, .int (q_far oi oz (hd :: R.filter p0) (R.filter (fun t => !p0 t)))), (12, .int (nI w)), (13, .int (nI xt)), (14, .int (nI (hd :: R).length)), (15, .int (ahF (fun t => w.testBit ((hd :: R).idxOf t)) (fun t => decide (t ∈ (hd :: R.filter p0))) (hd :: R))), (16, .int (nI (zN oz 1)))] [] := by
          refine V_aload_n X rfl dL_isMatch_485 ?_
          refine V_iload X rfl dL_isMatch_486 ?_
          refine V_callSp X (rest := _) (c_L_sum _ _ _ al fi z hR (nI xt) (fun k a b => hz0 ▸ ht5 k a b)) gL_isMatch_L_sum rfl hds_L_sum (Nat.le_of_ble_eq_true rfl) (Nat.le_of_ble_eq_true rfl) rfl (Nat.le_of_ble_eq_true rfl) dL_isMatch_488 ?_
          refine V_aload_n X rfl dL_isMatch_491 ?_
          refine V_iload X rfl dL_isMatch_492 ?_
          refine V_iload X rfl dL_isMatch_494 ?_
          refine V_iconst X (v := (-1)) (by decide) dL_isMatch_496 ?_
          refine V_ixor X dL_isMatch_497 ?_
          refine V_iand X dL_isMatch_498 ?_
          refine V.top (y := nI xr) (by rw [← ht2, PK.rest hS hT, hr2]) ?_
          refine V_callSp X (rest := _) (c_L_sum _ _ _ al fi z hR (nI xr) (fun k a b => hz0 ▸ hr5 k a b)) gL_isMatch_L_sum rfl hds_L_sum (Nat.le_of_ble_eq_true rfl) (Nat.le_of_ble_eq_true rfl) rfl (Nat.le_of_ble_eq_true rfl) dL_isMatch_499 ?_
          refine V_isub X dL_isMatch_502 ?_
          refine V_istore X (lv' := [(16, _), (0, _), (1, _), (2, _), (3, _), (4, _), (5, _), (6, _), (7, _), (8, _), (9, _), (10, _), (11, _), (12, _), (13, _), (14, _), (15, _)]) (by decide) rfl dL_isMatch_503 ?_
          refine V.join (P := fun v9 => v9 = q_far oi oz ((hd :: R).filter (fun t => w.testBit ((hd :: R).idxOf t))) ((hd :: R).filter (fun t => !w.testBit ((hd :: R).idxOf t)))) 518 (fun w518 hw518 => ?_) (fun hj518 => ?_)
          · subst hw518
            refine V_istore X (lv' := [(16, _), (0, _), (1, _), (2, _), (3, _), (4, _), (5, _), (6, _), (7, _), (8, _), (9, _), (10, _), (11, _), (12, _), (13, _), (14, _), (15, _)]) (by decide) rfl dL_isMatch_518 ?_
            refine V_iload X rfl dL_isMatch_520 ?_
            refine V_iconst X (v := 0) (by decide) dL_isMatch_522 ?_
            refine V_callSp X (rest := _) (c_L_has _ _ _ _ _) gL_isMatch_L_has rfl hds_L_has (Nat.le_of_ble_eq_true rfl) (Nat.le_of_ble_eq_true rfl) rfl (Nat.le_of_ble_eq_true rfl) dL_isMatch_523 ?_
            refine V_if_eq X (tgt := 571) (by decide) dL_isMatch_526 (fun hc526 => ?_) (fun hc526 => ?_)
            · refine V_iconst X (v := 1) (by decide) dL_isMatch_571 ?_
              refine V_goto X (tgt := 576) (by decide) dL_isMatch_572 ?_
              refine V_istore X (lv' := [(10, _), (16, _), (0, _), (1, _), (2, _), (3, _), (4, _), (5, _), (6, _), (7, _), (8, _), (9, _), (11, _), (12, _), (13, _), (14, _), (15, _)]) (by decide) rfl dL_isMatch_576 ?_
              refine V_iinc X (lv' := [(12, _), (10, _), (16, _), (0, _), (1, _), (2, _), (3, _), (4, _), (5, _), (6, _), (7, _), (8, _), (9, _), (11, _), (13, _), (14, _), (15, _)]) (v := nI (w + 1)) rfl (nI_1 _) (by decide) rfl dL_isMatch_578 ?_
              refine V_goto X (tgt := 344) (by decide) dL_isMatch_581 ?_
              refine V.lvs (lv' := [(0, _), (1, _), (2, _), (3, _), (4, _), (5, _), (6, _), (7, _), (8, _), (9, _), (10, _), (11, _), (12, _)]) rfl ?_
              refine V.bud (kc' := (2 * (64 - (w + 1)))) (ks' := (6 * (64 - (w + 1)))) (by omega) (by omega) ?_
              exact ih (2 ^ (hd :: R).length - (w + 1)) (by omega) (w + 1) rfl (by omega) _ hN
            · refine V_aload_n X rfl dL_isMatch_529 ?_
              refine V_iload X rfl dL_isMatch_530 ?_
              refine V_callS (kc' := (2 * (64 - (w + 1))) + 1) (ks' := (6 * (64 - (w + 1))) + 3) X (rest := _) (c_L_isTeam _ _ _ A lq la hA (zN oz 0) xt (ar 3) ht1 ht3 hS.np hro) gL_isMatch_L_isTeam rfl hds_L_isTeam (Nat.le_of_ble_eq_true rfl) (Nat.le_of_ble_eq_true rfl) rfl (Nat.le_of_ble_eq_true rfl) (by omega) (by omega) dL_isMatch_532 (fun r9 f9 h9 => ?_)
              obtain ⟨rfl, hN9⟩ := h9
              have hN := hN.trans hN9
              have hR := hR.keepA hN9.a
              have hA := hA.fr hN9.c
              refine V.top (y := bI (q_tA oi oz ((hd :: R).filter (fun t => w.testBit ((hd :: R).idxOf t))))) (congrArg bI ht4) ?_
              refine V_if_eq X (tgt := 571) (by decide) dL_isMatch_535 (fun hc535 => ?_) (fun hc535 => ?_)
              · refine V_iconst X (v := 1) (by decide) dL_isMatch_571 ?_
                refine V_goto X (tgt := 576) (by decide) dL_isMatch_572 ?_
                refine V_istore X (lv' := [(10, _), (16, _), (0, _), (1, _), (2, _), (3, _), (4, _), (5, _), (6, _), (7, _), (8, _), (9, _), (11, _), (12, _), (13, _), (14, _), (15, _)]) (by decide) rfl dL_isMatch_576 ?_
                refine V_iinc X (lv' := [(12, _), (10, _), (16, _), (0, _), (1, _), (2, _), (3, _), (4, _), (5, _), (6, _), (7, _), (8, _), (9, _), (11, _), (13, _), (14, _), (15, _)]) (v := nI (w + 1)) rfl (nI_1 _) (by decide) rfl dL_isMatch_578 ?_
                refine V_goto X (tgt := 344) (by decide) dL_isMatch_581 ?_
                refine V.lvs (lv' := [(0, _), (1, _), (2, _), (3, _), (4, _), (5, _), (6, _), (7, _), (8, _), (9, _), (10, _), (11, _), (12, _)]) rfl ?_
                refine V.bud (kc' := (2 * (64 - (w + 1)))) (ks' := (6 * (64 - (w + 1)))) (by omega) (by omega) ?_
                exact ih (2 ^ (hd :: R).length - (w + 1)) (by omega) (w + 1) rfl (by omega) _ hN
              · refine V_aload_n X rfl dL_isMatch_538 ?_
                refine V_iload X rfl dL_isMatch_539 ?_
                refine V_iload X rfl dL_isMatch_541 ?_
                refine V_iconst X (v := (-1)) (by decide) dL_isMatch_543 ?_
                refine V_ixor X dL_isMatch_544 ?_
                refine V_iand X dL_isMatch_545 ?_
                refine V.top (y := nI xr) (by rw [← ht2, PK.rest hS hT, hr2]) ?_
                refine V_callS (kc' := (2 * (64 - (w + 1)))) (ks' := (6 * (64 - (w + 1)))) X (rest := _) (c_L_isTeam _ _ _ A lq la hA (zN oz 0) xr (ar 3) hr1 hr3 hS.np hro) gL_isMatch_L_isTeam rfl hds_L_isTeam (Nat.le_of_ble_eq_true rfl) (Nat.le_of_ble_eq_true rfl) rfl (Nat.le_of_ble_eq_true rfl) (by omega) (by omega) dL_isMatch_546 (fun r9 f9 h9 => ?_)
                obtain ⟨rfl, hN9⟩ := h9
                have hN := hN.trans hN9
                have hR := hR.keepA hN9.a
                have hA := hA.fr hN9.c
                refine V.top (y := bI (q_tA oi oz ((hd :: R).filter (fun t => !w.testBit ((hd :: R).idxOf t))))) (congrArg bI hr4) ?_
                refine V_if_eq X (tgt := 571) (by decide) dL_isMatch_549 (fun hc549 => ?_) (fun hc549 => ?_)
                · refine V_iconst X (v := 1) (by decide) dL_isMatch_571 ?_
                  refine V_goto X (tgt := 576) (by decide) dL_isMatch_572 ?_
                  refine V_istore X (lv' := [(10, _), (16, _), (0, _), (1, _), (2, _), (3, _), (4, _), (5, _), (6, _), (7, _), (8, _), (9, _), (11, _), (12, _), (13, _), (14, _), (15, _)]) (by decide) rfl dL_isMatch_576 ?_
                  refine V_iinc X (lv' := [(12, _), (10, _), (16, _), (0, _), (1, _), (2, _), (3, _), (4, _), (5, _), (6, _), (7, _), (8, _), (9, _), (11, _), (13, _), (14, _), (15, _)]) (v := nI (w + 1)) rfl (nI_1 _) (by decide) rfl dL_isMatch_578 ?_
                  refine V_goto X (tgt := 344) (by decide) dL_isMatch_581 ?_
                  refine V.lvs (lv' := [(0, _), (1, _), (2, _), (3, _), (4, _), (5, _), (6, _), (7, _), (8, _), (9, _), (10, _), (11, _), (12, _)]) rfl ?_
                  refine V.bud (kc' := (2 * (64 - (w + 1)))) (ks' := (6 * (64 - (w + 1)))) (by omega) (by omega) ?_
                  exact ih (2 ^ (hd :: R).length - (w + 1)) (by omega) (w + 1) rfl (by omega) _ hN
                · refine V_iload X rfl dL_isMatch_552 ?_
                  refine V_iload X rfl dL_isMatch_554 ?_
                  refine V_icmp_gt X (tgt := 571) (by decide) dL_isMatch_556 (fun hc556 => ?_) (fun hc556 => ?_)
                  · refine V_iconst X (v := 1) (by decide) dL_isMatch_571 ?_
                    refine V_goto X (tgt := 576) (by decide) dL_isMatch_572 ?_
                    refine V_istore X (lv' := [(10, _), (16, _), (0, _), (1, _), (2, _), (3, _), (4, _), (5, _), (6, _), (7, _), (8, _), (9, _), (11, _), (12, _), (13, _), (14, _), (15, _)]) (by decide) rfl dL_isMatch_576 ?_
                    refine V_iinc X (lv' := [(12, _), (10, _), (16, _), (0, _), (1, _), (2, _), (3, _), (4, _), (5, _), (6, _), (7, _), (8, _), (9, _), (11, _), (13, _), (14, _), (15, _)]) (v := nI (w + 1)) rfl (nI_1 _) (by decide) rfl dL_isMatch_578 ?_
                    refine V_goto X (tgt := 344) (by decide) dL_isMatch_581 ?_
                    refine V.lvs (lv' := [(0, _), (1, _), (2, _), (3, _), (4, _), (5, _), (6, _), (7, _), (8, _), (9, _), (10, _), (11, _), (12, _)]) rfl ?_
                    refine V.bud (kc' := (2 * (64 - (w + 1)))) (ks' := (6 * (64 - (w + 1)))) (by omega) (by omega) ?_
                    exact ih (2 ^ (hd :: R).length - (w + 1)) (by omega) (w + 1) rfl (by omega) _ hN
                  · refine V_iload X rfl dL_isMatch_559 ?_
                    refine V_iload X rfl dL_isMatch_561 ?_
                    refine V_icmp_ne X (tgt := 575) (by decide) dL_isMatch_563 (fun hc563 => ?_) (fun hc563 => ?_)
                    · exfalso
                      have hpd : w.testBit ((hd :: R).idxOf hd) = true := by rw [List.idxOf_cons_self, ← hsI_tb (by decide)]; exact bI_ne0 hc526
                      have x1 : ((hd :: R).filter (fun t => w.testBit ((hd :: R).idxOf t))) = hd :: R.filter (fun t => w.testBit ((hd :: R).idxOf t)) := List.filter_cons_of_pos hpd
                      have x2 : ((hd :: R).filter (fun t => !w.testBit ((hd :: R).idxOf t))) = R.filter (fun t => !w.testBit ((hd :: R).idxOf t)) := List.filter_cons_of_neg (by rw [hpd]; decide)
                      have hm := hmin (fun t => w.testBit ((hd :: R).idxOf t)) (by unfold okS; rw [← x1, ← x2, bI_ne0 hc535, bI_ne0 hc549]; rfl)
                      rw [← x1, ← x2] at hm
                      exact hc563 (Int32.le_antisymm (Int32.not_lt.mp hc556) hm.1)
                    · refine V_iload X rfl dL_isMatch_566 ?_
                      refine V_if_gt X (tgt := 575) (by decide) dL_isMatch_568 (fun hc568 => ?_) (fun hc568 => ?_)
                      · exfalso
                        have hpd : w.testBit ((hd :: R).idxOf hd) = true := by rw [List.idxOf_cons_self, ← hsI_tb (by decide)]; exact bI_ne0 hc526
                        have x1 : ((hd :: R).filter (fun t => w.testBit ((hd :: R).idxOf t))) = hd :: R.filter (fun t => w.testBit ((hd :: R).idxOf t)) := List.filter_cons_of_pos hpd
                        have x2 : ((hd :: R).filter (fun t => !w.testBit ((hd :: R).idxOf t))) = R.filter (fun t => !w.testBit ((hd :: R).idxOf t)) := List.filter_cons_of_neg (by rw [hpd]; decide)
                        have hm := hmin (fun t => w.testBit ((hd :: R).idxOf t)) (by unfold okS; rw [← x1, ← x2, bI_ne0 hc535, bI_ne0 hc549]; rfl)
                        rw [← x1, ← x2] at hm
                        have hea := ah_pos _ hc568
                        rcases hea with ⟨q1, q2⟩ | ⟨-, q2⟩
                        · exact absurd (show decide (hd ∈ (hd :: R.filter p0)) = false from q2) (by rw [decide_eq_true List.mem_cons_self]; decide)
                        · have q3 := hm.2 (eaR_cg hpA q2)
                          rw [hc563] at q3
                          exact Int32.lt_irrefl q3
                      · refine V_iconst X (v := 1) (by decide) dL_isMatch_571 ?_
                        refine V_goto X (tgt := 576) (by decide) dL_isMatch_572 ?_
                        refine V_istore X (lv' := [(10, _), (16, _), (0, _), (1, _), (2, _), (3, _), (4, _), (5, _), (6, _), (7, _), (8, _), (9, _), (11, _), (12, _), (13, _), (14, _), (15, _)]) (by decide) rfl dL_isMatch_576 ?_
                        refine V_iinc X (lv' := [(12, _), (10, _), (16, _), (0, _), (1, _), (2, _), (3, _), (4, _), (5, _), (6, _), (7, _), (8, _), (9, _), (11, _), (13, _), (14, _), (15, _)]) (v := nI (w + 1)) rfl (nI_1 _) (by decide) rfl dL_isMatch_578 ?_
                        refine V_goto X (tgt := 344) (by decide) dL_isMatch_581 ?_
                        refine V.lvs (lv' := [(0, _), (1, _), (2, _), (3, _), (4, _), (5, _), (6, _), (7, _), (8, _), (9, _), (10, _), (11, _), (12, _)]) rfl ?_
                        refine V.bud (kc' := (2 * (64 - (w + 1)))) (ks' := (6 * (64 - (w + 1)))) (by omega) (by omega) ?_
                        exact ih (2 ^ (hd :: R).length - (w + 1)) (by omega) (w + 1) rfl (by omega) _ hN
          · refine V_iload X rfl dL_isMatch_505 ?_
            refine V_if_ge X (tgt := 516) (by decide) dL_isMatch_507 (fun hc507 => ?_) (fun hc507 => ?_)
            · refine V_iload X rfl dL_isMatch_516 ?_
              exact hj518 _ ((by rw [← hfar]; exact (if_pos hc507).symm))
            · refine V_iload X rfl dL_isMatch_510 ?_
              refine V_ineg X dL_isMatch_512 ?_
              refine V_goto X (tgt := 518) (by decide) dL_isMatch_513 ?_
              exact hj518 _ ((by rw [← hfar]; exact (if_neg hc507).symm))
        have LD : ∀ (n i : Nat), zN oz 1 - i = n → i ≤ zN oz 1 → V K f1 (2 * (64 - w)) (6 * (64 - w)) 370 [(0, .ref (al (15, 0))), (1, .ref (A 0)), (2, .ref (A 2)), (3, .ref (A 6)), (4, .int (nI mm)), (5, .int (nI xa)), (6, .int (nI xb)), (7, .int (nI hd)), (8, .int (q_U (oi 5) (hd :: R))), (9, .int (nI (hd :: R).length)), (10, .int 1), (11, .int (q_far oi oz (hd :: R.filter p0) (R.filter (fun t => !p0 t)))), (12, .int (nI w)), (13, .int (q_U (oi 5) (((hd :: R).filter (fun t => decide (t < i))).filter (fun t => w.testBit ((hd :: R).idxOf t))))), (14, .int (nI ((hd :: R).filter (fun t => decide (t < i))).length)), (15, .int (ahF (fun t => w.testBit ((hd :: R).idxOf t)) (fun t => decide (t ∈ (hd :: R.filter p0))) ((hd :: R).filter (fun t => decide (t < i))))), (16, .int (nI i))] [] := by
          intro n
          induction n using Nat.strongRecOn with
          | ind n ih =>
            intro i hn hi
            refine V_iload X rfl dL_isMatch_370 ?_
            refine V_aload_n X rfl dL_isMatch_372 ?_
            refine V_iconst X (v := 2) (by decide) dL_isMatch_373 ?_
            refine V_ald X hA 6 (2) 4 (by decide) rfl (by omega) (hI.c2) dL_isMatch_374 ?_
            refine V_icmp_ge X (tgt := 485) (by decide) dL_isMatch_375 (fun hc375 => ?_) (fun hc375 => ?_)
            · have hiN := lim_ge (N := zN oz 1) rfl hc375 hi (by omega)
              refine V.lvs (lv' := [(0, _), (1, _), (2, _), (3, _), (4, _), (5, _), (6, _), (7, _), (8, _), (9, _), (10, _), (11, _), (12, _), (13, _), (14, _), (15, _), (16, _)]) rfl ?_
              rw [hiN, (flt_n (fun t ht => (hT t ht).1)).1, ht2]
              exact TE
            · have hlt := lim_lt (N := zN oz 1) rfl hc375 hi (by omega)
              have hcs := hsp i hlt
              rcases hcs with ⟨hin, h7⟩ | ⟨hout, h7⟩ | ⟨hout, h7⟩
              · refine V_aload_n X rfl dL_isMatch_378 ?_
                refine V_iload X rfl dL_isMatch_379 ?_
                refine V_callSp X (rest := _) (c_L_queues _ _ _ A lq la hA (i) (by have := hI.nt; have := hlt; omega) (P (i)) (S (i)) (Q (i)) (M (i)) (hI.ok hlt) (hI.q hlt)) gL_isMatch_L_queues rfl hds_L_queues (Nat.le_of_ble_eq_true rfl) (Nat.le_of_ble_eq_true rfl) rfl (Nat.le_of_ble_eq_true rfl) dL_isMatch_381 ?_
                refine V.top (y := 1) (by rw [decide_eq_true ((SI.q1 hS hI hlt).mpr h7)]; rfl) ?_
                refine V_if_eq X (tgt := 479) (by decide) dL_isMatch_384 (fun hc384 => absurd hc384 (by decide)) (fun hc384 => ?_)
                refine V_aload_n X rfl dL_isMatch_387 ?_
                refine V_iload X rfl dL_isMatch_388 ?_
                refine V_callSp X (rest := _) (c_L_players _ _ _ A lq la hA (i) (by have := hI.nt; have := hlt; omega) (P (i)) (S (i)) (Q (i)) (M (i)) (hI.ok hlt) (hI.q hlt)) gL_isMatch_L_players rfl hds_L_players (Nat.le_of_ble_eq_true rfl) (Nat.le_of_ble_eq_true rfl) rfl (Nat.le_of_ble_eq_true rfl) dL_isMatch_390 ?_
                refine V_iload X rfl dL_isMatch_393 ?_
                refine V_iand X dL_isMatch_395 ?_
                refine V_if_eq X (tgt := 479) (by decide) dL_isMatch_396 (fun hc396 => absurd hc396 (fun q => (PK.in hS hI hT hlt h7).mp q hin)) (fun hc396 => ?_)
                have e9 : ((hd :: R).filter (fun t => decide (t < (i + 1)))) = ((hd :: R).filter (fun t => decide (t < i))) ++ [i] := by rw [flt_lt hTs i, if_pos hin]
                have hlen : ((hd :: R).filter (fun t => decide (t < i))).length ≤ (hd :: R).length := (List.filter_sublist).length_le
                refine V_iload X rfl dL_isMatch_399 ?_
                refine V_iload X rfl dL_isMatch_401 ?_
                refine V_callSp X (rest := _) (c_L_has _ _ _ _ _) gL_isMatch_L_has rfl hds_L_has (Nat.le_of_ble_eq_true rfl) (Nat.le_of_ble_eq_true rfl) rfl (Nat.le_of_ble_eq_true rfl) dL_isMatch_403 ?_
                by_cases hpw : w.testBit ((hd :: R).filter (fun t => decide (t < i))).length = true
                · refine V.top (y := 1) (by rw [hsI_tb (by omega), hpw]; rfl) ?_
                  refine V_istore X (lv' := [(17, _), (0, _), (1, _), (2, _), (3, _), (4, _), (5, _), (6, _), (7, _), (8, _), (9, _), (10, _), (11, _), (12, _), (13, _), (14, _), (15, _), (16, _)]) (by decide) rfl dL_isMatch_406 ?_
                  by_cases hia : i ∈ (hd :: R.filter p0)
                  · refine V_aload_n X rfl dL_isMatch_408 ?_
                    refine V_iload X rfl dL_isMatch_409 ?_
                    refine V_callSp X (rest := _) (c_L_players _ _ _ A lq la hA (i) (by have := hI.nt; have := hlt; omega) (P (i)) (S (i)) (Q (i)) (M (i)) (hI.ok hlt) (hI.q hlt)) gL_isMatch_L_players rfl hds_L_players (Nat.le_of_ble_eq_true rfl) (Nat.le_of_ble_eq_true rfl) rfl (Nat.le_of_ble_eq_true rfl) dL_isMatch_411 ?_
                    refine V_iload X rfl dL_isMatch_414 ?_
                    refine V_iand X dL_isMatch_416 ?_
                    refine V_if_eq X (tgt := 424) (by decide) dL_isMatch_417 (fun hc417 => absurd hc417 (fun q => (PK.in hS hI hTA hlt h7).mp (by rw [ha2]; exact q) hia)) (fun hc417 => ?_)
                    refine V_iconst X (v := 1) (by decide) dL_isMatch_420 ?_
                    refine V_goto X (tgt := 425) (by decide) dL_isMatch_421 ?_
                    refine V_istore X (lv' := [(18, _), (17, _), (0, _), (1, _), (2, _), (3, _), (4, _), (5, _), (6, _), (7, _), (8, _), (9, _), (10, _), (11, _), (12, _), (13, _), (14, _), (15, _), (16, _)]) (by decide) rfl dL_isMatch_425 ?_
                    refine V_iload X rfl dL_isMatch_427 ?_
                    refine V_iload X rfl dL_isMatch_429 ?_
                    refine V_if_eq X (tgt := 443) (by decide) dL_isMatch_431 (fun hc431 => absurd hc431 (by decide)) (fun hc431 => ?_)
                    refine V_aload_n X rfl dL_isMatch_434 ?_
                    refine V_iload X rfl dL_isMatch_435 ?_
                    refine V_callSp X (rest := _) (c_L_players _ _ _ A lq la hA (i) (by have := hI.nt; have := hlt; omega) (P (i)) (S (i)) (Q (i)) (M (i)) (hI.ok hlt) (hI.q hlt)) gL_isMatch_L_players rfl hds_L_players (Nat.le_of_ble_eq_true rfl) (Nat.le_of_ble_eq_true rfl) rfl (Nat.le_of_ble_eq_true rfl) dL_isMatch_437 ?_
                    refine V_goto X (tgt := 444) (by decide) dL_isMatch_440 ?_
                    refine V_ior X dL_isMatch_444 ?_
                    refine V.top (y := q_U (oi 5) (((hd :: R).filter (fun t => decide (t < (i + 1)))).filter (fun t => w.testBit ((hd :: R).idxOf t)))) (by rw [e9, List.filter_append, show List.filter (fun t => w.testBit ((hd :: R).idxOf t)) [i] = [i] from List.filter_cons_of_pos (show w.testBit ((hd :: R).idxOf i) = true by rw [idx_lt hTs hin]; exact hpw), ← SI.p5 hS hI hlt]; exact (q_U_a _ _ _).symm) ?_
                    refine V_istore X (lv' := [(13, _), (18, _), (17, _), (0, _), (1, _), (2, _), (3, _), (4, _), (5, _), (6, _), (7, _), (8, _), (9, _), (10, _), (11, _), (12, _), (14, _), (15, _), (16, _)]) (by decide) rfl dL_isMatch_445 ?_
                    refine V_iload X rfl dL_isMatch_447 ?_
                    refine V_if_ne X (tgt := 459) (by decide) dL_isMatch_449 (fun hc449 => ?_) (fun hc449 => ?_)
                    · refine V_iload X rfl dL_isMatch_459 ?_
                      refine V_goto X (tgt := 474) (by decide) dL_isMatch_461 ?_
                      refine V.top (y := ahF (fun t => w.testBit ((hd :: R).idxOf t)) (fun t => decide (t ∈ (hd :: R.filter p0))) ((hd :: R).filter (fun t => decide (t < (i + 1))))) (by rw [e9, ahF_1]; exact (ahS_a (p := (fun t => w.testBit ((hd :: R).idxOf t))) (q := (fun t => decide (t ∈ (hd :: R.filter p0)))) hc449).symm) ?_
                      refine V_istore X (lv' := [(15, _), (13, _), (18, _), (17, _), (0, _), (1, _), (2, _), (3, _), (4, _), (5, _), (6, _), (7, _), (8, _), (9, _), (10, _), (11, _), (12, _), (14, _), (16, _)]) (by decide) rfl dL_isMatch_474 ?_
                      refine V_iinc X (lv' := [(14, _), (15, _), (13, _), (18, _), (17, _), (0, _), (1, _), (2, _), (3, _), (4, _), (5, _), (6, _), (7, _), (8, _), (9, _), (10, _), (11, _), (12, _), (16, _)]) (v := nI ((hd :: R).filter (fun t => decide (t < (i + 1)))).length) rfl (by rw [e9, List.length_append, List.length_singleton]; exact nI_1 _) (by decide) rfl dL_isMatch_476 ?_
                      refine V_iinc X (lv' := [(16, _), (14, _), (15, _), (13, _), (18, _), (17, _), (0, _), (1, _), (2, _), (3, _), (4, _), (5, _), (6, _), (7, _), (8, _), (9, _), (10, _), (11, _), (12, _)]) (v := nI (i + 1)) rfl (nI_1 _) (by decide) rfl dL_isMatch_479 ?_
                      refine V_goto X (tgt := 370) (by decide) dL_isMatch_482 ?_
                      refine V.lvs (lv' := [(0, _), (1, _), (2, _), (3, _), (4, _), (5, _), (6, _), (7, _), (8, _), (9, _), (10, _), (11, _), (12, _), (13, _), (14, _), (15, _), (16, _)]) rfl ?_
                      exact ih (zN oz 1 - (i + 1)) (by omega) (i + 1) rfl (by omega)
                    · refine V_iload X rfl dL_isMatch_452 ?_
                      refine V_iload X rfl dL_isMatch_454 ?_
                      refine V_icmp_ne X (tgt := 464) (by decide) dL_isMatch_456 (fun hc456 => absurd hc456 (by decide)) (fun hc456 => ?_)
                      refine V_iload X rfl dL_isMatch_459 ?_
                      refine V_goto X (tgt := 474) (by decide) dL_isMatch_461 ?_
                      refine V.top (y := ahF (fun t => w.testBit ((hd :: R).idxOf t)) (fun t => decide (t ∈ (hd :: R.filter p0))) ((hd :: R).filter (fun t => decide (t < (i + 1))))) (by rw [e9, ahF_1]; exact (ahS_e (p := (fun t => w.testBit ((hd :: R).idxOf t))) (q := (fun t => decide (t ∈ (hd :: R.filter p0)))) ((show w.testBit ((hd :: R).idxOf i) = true by rw [idx_lt hTs hin]; exact hpw).trans (show decide (i ∈ (hd :: R.filter p0)) = true from decide_eq_true hia).symm)).symm) ?_
                      refine V_istore X (lv' := [(15, _), (13, _), (18, _), (17, _), (0, _), (1, _), (2, _), (3, _), (4, _), (5, _), (6, _), (7, _), (8, _), (9, _), (10, _), (11, _), (12, _), (14, _), (16, _)]) (by decide) rfl dL_isMatch_474 ?_
                      refine V_iinc X (lv' := [(14, _), (15, _), (13, _), (18, _), (17, _), (0, _), (1, _), (2, _), (3, _), (4, _), (5, _), (6, _), (7, _), (8, _), (9, _), (10, _), (11, _), (12, _), (16, _)]) (v := nI ((hd :: R).filter (fun t => decide (t < (i + 1)))).length) rfl (by rw [e9, List.length_append, List.length_singleton]; exact nI_1 _) (by decide) rfl dL_isMatch_476 ?_
                      refine V_iinc X (lv' := [(16, _), (14, _), (15, _), (13, _), (18, _), (17, _), (0, _), (1, _), (2, _), (3, _), (4, _), (5, _), (6, _), (7, _), (8, _), (9, _), (10, _), (11, _), (12, _)]) (v := nI (i + 1)) rfl (nI_1 _) (by decide) rfl dL_isMatch_479 ?_
                      refine V_goto X (tgt := 370) (by decide) dL_isMatch_482 ?_
                      refine V.lvs (lv' := [(0, _), (1, _), (2, _), (3, _), (4, _), (5, _), (6, _), (7, _), (8, _), (9, _), (10, _), (11, _), (12, _), (13, _), (14, _), (15, _), (16, _)]) rfl ?_
                      exact ih (zN oz 1 - (i + 1)) (by omega) (i + 1) rfl (by omega)
                  · refine V_aload_n X rfl dL_isMatch_408 ?_
                    refine V_iload X rfl dL_isMatch_409 ?_
                    refine V_callSp X (rest := _) (c_L_players _ _ _ A lq la hA (i) (by have := hI.nt; have := hlt; omega) (P (i)) (S (i)) (Q (i)) (M (i)) (hI.ok hlt) (hI.q hlt)) gL_isMatch_L_players rfl hds_L_players (Nat.le_of_ble_eq_true rfl) (Nat.le_of_ble_eq_true rfl) rfl (Nat.le_of_ble_eq_true rfl) dL_isMatch_411 ?_
                    refine V_iload X rfl dL_isMatch_414 ?_
                    refine V_iand X dL_isMatch_416 ?_
                    refine V_if_eq X (tgt := 424) (by decide) dL_isMatch_417 (fun hc417 => ?_) (fun hc417 => absurd hc417 (not_not_intro (by rw [← ha2]; exact (PK.in hS hI hTA hlt h7).mpr hia)))
                    refine V_iconst X (v := 0) (by decide) dL_isMatch_424 ?_
                    refine V_istore X (lv' := [(18, _), (17, _), (0, _), (1, _), (2, _), (3, _), (4, _), (5, _), (6, _), (7, _), (8, _), (9, _), (10, _), (11, _), (12, _), (13, _), (14, _), (15, _), (16, _)]) (by decide) rfl dL_isMatch_425 ?_
                    refine V_iload X rfl dL_isMatch_427 ?_
                    refine V_iload X rfl dL_isMatch_429 ?_
                    refine V_if_eq X (tgt := 443) (by decide) dL_isMatch_431 (fun hc431 => absurd hc431 (by decide)) (fun hc431 => ?_)
                    refine V_aload_n X rfl dL_isMatch_434 ?_
                    refine V_iload X rfl dL_isMatch_435 ?_
                    refine V_callSp X (rest := _) (c_L_players _ _ _ A lq la hA (i) (by have := hI.nt; have := hlt; omega) (P (i)) (S (i)) (Q (i)) (M (i)) (hI.ok hlt) (hI.q hlt)) gL_isMatch_L_players rfl hds_L_players (Nat.le_of_ble_eq_true rfl) (Nat.le_of_ble_eq_true rfl) rfl (Nat.le_of_ble_eq_true rfl) dL_isMatch_437 ?_
                    refine V_goto X (tgt := 444) (by decide) dL_isMatch_440 ?_
                    refine V_ior X dL_isMatch_444 ?_
                    refine V.top (y := q_U (oi 5) (((hd :: R).filter (fun t => decide (t < (i + 1)))).filter (fun t => w.testBit ((hd :: R).idxOf t)))) (by rw [e9, List.filter_append, show List.filter (fun t => w.testBit ((hd :: R).idxOf t)) [i] = [i] from List.filter_cons_of_pos (show w.testBit ((hd :: R).idxOf i) = true by rw [idx_lt hTs hin]; exact hpw), ← SI.p5 hS hI hlt]; exact (q_U_a _ _ _).symm) ?_
                    refine V_istore X (lv' := [(13, _), (18, _), (17, _), (0, _), (1, _), (2, _), (3, _), (4, _), (5, _), (6, _), (7, _), (8, _), (9, _), (10, _), (11, _), (12, _), (14, _), (15, _), (16, _)]) (by decide) rfl dL_isMatch_445 ?_
                    refine V_iload X rfl dL_isMatch_447 ?_
                    refine V_if_ne X (tgt := 459) (by decide) dL_isMatch_449 (fun hc449 => ?_) (fun hc449 => ?_)
                    · refine V_iload X rfl dL_isMatch_459 ?_
                      refine V_goto X (tgt := 474) (by decide) dL_isMatch_461 ?_
                      refine V.top (y := ahF (fun t => w.testBit ((hd :: R).idxOf t)) (fun t => decide (t ∈ (hd :: R.filter p0))) ((hd :: R).filter (fun t => decide (t < (i + 1))))) (by rw [e9, ahF_1]; exact (ahS_a (p := (fun t => w.testBit ((hd :: R).idxOf t))) (q := (fun t => decide (t ∈ (hd :: R.filter p0)))) hc449).symm) ?_
                      refine V_istore X (lv' := [(15, _), (13, _), (18, _), (17, _), (0, _), (1, _), (2, _), (3, _), (4, _), (5, _), (6, _), (7, _), (8, _), (9, _), (10, _), (11, _), (12, _), (14, _), (16, _)]) (by decide) rfl dL_isMatch_474 ?_
                      refine V_iinc X (lv' := [(14, _), (15, _), (13, _), (18, _), (17, _), (0, _), (1, _), (2, _), (3, _), (4, _), (5, _), (6, _), (7, _), (8, _), (9, _), (10, _), (11, _), (12, _), (16, _)]) (v := nI ((hd :: R).filter (fun t => decide (t < (i + 1)))).length) rfl (by rw [e9, List.length_append, List.length_singleton]; exact nI_1 _) (by decide) rfl dL_isMatch_476 ?_
                      refine V_iinc X (lv' := [(16, _), (14, _), (15, _), (13, _), (18, _), (17, _), (0, _), (1, _), (2, _), (3, _), (4, _), (5, _), (6, _), (7, _), (8, _), (9, _), (10, _), (11, _), (12, _)]) (v := nI (i + 1)) rfl (nI_1 _) (by decide) rfl dL_isMatch_479 ?_
                      refine V_goto X (tgt := 370) (by decide) dL_isMatch_482 ?_
                      refine V.lvs (lv' := [(0, _), (1, _), (2, _), (3, _), (4, _), (5, _), (6, _), (7, _), (8, _), (9, _), (10, _), (11, _), (12, _), (13, _), (14, _), (15, _), (16, _)]) rfl ?_
                      exact ih (zN oz 1 - (i + 1)) (by omega) (i + 1) rfl (by omega)
                    · refine V_iload X rfl dL_isMatch_452 ?_
                      refine V_iload X rfl dL_isMatch_454 ?_
                      refine V_icmp_ne X (tgt := 464) (by decide) dL_isMatch_456 (fun hc456 => ?_) (fun hc456 => absurd hc456 (by decide))
                      refine V_iload X rfl dL_isMatch_464 ?_
                      refine V_if_eq X (tgt := 473) (by decide) dL_isMatch_466 (fun hc466 => absurd hc466 (by decide)) (fun hc466 => ?_)
                      refine V_iconst X (v := 1) (by decide) dL_isMatch_469 ?_
                      refine V_goto X (tgt := 474) (by decide) dL_isMatch_470 ?_
                      refine V.top (y := ahF (fun t => w.testBit ((hd :: R).idxOf t)) (fun t => decide (t ∈ (hd :: R.filter p0))) ((hd :: R).filter (fun t => decide (t < (i + 1))))) (by rw [e9, ahF_1]; exact (ahS_t (p := (fun t => w.testBit ((hd :: R).idxOf t))) (q := (fun t => decide (t ∈ (hd :: R.filter p0)))) hc449 (show w.testBit ((hd :: R).idxOf i) = true by rw [idx_lt hTs hin]; exact hpw) (show decide (i ∈ (hd :: R.filter p0)) = false from decide_eq_false hia)).symm) ?_
                      refine V_istore X (lv' := [(15, _), (13, _), (18, _), (17, _), (0, _), (1, _), (2, _), (3, _), (4, _), (5, _), (6, _), (7, _), (8, _), (9, _), (10, _), (11, _), (12, _), (14, _), (16, _)]) (by decide) rfl dL_isMatch_474 ?_
                      refine V_iinc X (lv' := [(14, _), (15, _), (13, _), (18, _), (17, _), (0, _), (1, _), (2, _), (3, _), (4, _), (5, _), (6, _), (7, _), (8, _), (9, _), (10, _), (11, _), (12, _), (16, _)]) (v := nI ((hd :: R).filter (fun t => decide (t < (i + 1)))).length) rfl (by rw [e9, List.length_append, List.length_singleton]; exact nI_1 _) (by decide) rfl dL_isMatch_476 ?_
                      refine V_iinc X (lv' := [(16, _), (14, _), (15, _), (13, _), (18, _), (17, _), (0, _), (1, _), (2, _), (3, _), (4, _), (5, _), (6, _), (7, _), (8, _), (9, _), (10, _), (11, _), (12, _)]) (v := nI (i + 1)) rfl (nI_1 _) (by decide) rfl dL_isMatch_479 ?_
                      refine V_goto X (tgt := 370) (by decide) dL_isMatch_482 ?_
                      refine V.lvs (lv' := [(0, _), (1, _), (2, _), (3, _), (4, _), (5, _), (6, _), (7, _), (8, _), (9, _), (10, _), (11, _), (12, _), (13, _), (14, _), (15, _), (16, _)]) rfl ?_
                      exact ih (zN oz 1 - (i + 1)) (by omega) (i + 1) rfl (by omega)
                · refine V.top (y := 0) (by rw [hsI_tb (by omega), (Bool.not_eq_true _).mp hpw]; rfl) ?_
                  refine V_istore X (lv' := [(17, _), (0, _), (1, _), (2, _), (3, _), (4, _), (5, _), (6, _), (7, _), (8, _), (9, _), (10, _), (11, _), (12, _), (13, _), (14, _), (15, _), (16, _)]) (by decide) rfl dL_isMatch_406 ?_
                  by_cases hia : i ∈ (hd :: R.filter p0)
                  · refine V_aload_n X rfl dL_isMatch_408 ?_
                    refine V_iload X rfl dL_isMatch_409 ?_
                    refine V_callSp X (rest := _) (c_L_players _ _ _ A lq la hA (i) (by have := hI.nt; have := hlt; omega) (P (i)) (S (i)) (Q (i)) (M (i)) (hI.ok hlt) (hI.q hlt)) gL_isMatch_L_players rfl hds_L_players (Nat.le_of_ble_eq_true rfl) (Nat.le_of_ble_eq_true rfl) rfl (Nat.le_of_ble_eq_true rfl) dL_isMatch_411 ?_
                    refine V_iload X rfl dL_isMatch_414 ?_
                    refine V_iand X dL_isMatch_416 ?_
                    refine V_if_eq X (tgt := 424) (by decide) dL_isMatch_417 (fun hc417 => absurd hc417 (fun q => (PK.in hS hI hTA hlt h7).mp (by rw [ha2]; exact q) hia)) (fun hc417 => ?_)
                    refine V_iconst X (v := 1) (by decide) dL_isMatch_420 ?_
                    refine V_goto X (tgt := 425) (by decide) dL_isMatch_421 ?_
                    refine V_istore X (lv' := [(18, _), (17, _), (0, _), (1, _), (2, _), (3, _), (4, _), (5, _), (6, _), (7, _), (8, _), (9, _), (10, _), (11, _), (12, _), (13, _), (14, _), (15, _), (16, _)]) (by decide) rfl dL_isMatch_425 ?_
                    refine V_iload X rfl dL_isMatch_427 ?_
                    refine V_iload X rfl dL_isMatch_429 ?_
                    refine V_if_eq X (tgt := 443) (by decide) dL_isMatch_431 (fun hc431 => ?_) (fun hc431 => absurd hc431 (by decide))
                    refine V_iconst X (v := 0) (by decide) dL_isMatch_443 ?_
                    refine V_ior X dL_isMatch_444 ?_
                    refine V.top (y := q_U (oi 5) (((hd :: R).filter (fun t => decide (t < (i + 1)))).filter (fun t => w.testBit ((hd :: R).idxOf t)))) (by rw [e9, List.filter_append, show List.filter (fun t => w.testBit ((hd :: R).idxOf t)) [i] = [] from List.filter_cons_of_neg (show ¬ w.testBit ((hd :: R).idxOf i) = true by rw [idx_lt hTs hin]; exact hpw), List.append_nil, or32_0]) ?_
                    refine V_istore X (lv' := [(13, _), (18, _), (17, _), (0, _), (1, _), (2, _), (3, _), (4, _), (5, _), (6, _), (7, _), (8, _), (9, _), (10, _), (11, _), (12, _), (14, _), (15, _), (16, _)]) (by decide) rfl dL_isMatch_445 ?_
                    refine V_iload X rfl dL_isMatch_447 ?_
                    refine V_if_ne X (tgt := 459) (by decide) dL_isMatch_449 (fun hc449 => ?_) (fun hc449 => ?_)
                    · refine V_iload X rfl dL_isMatch_459 ?_
                      refine V_goto X (tgt := 474) (by decide) dL_isMatch_461 ?_
                      refine V.top (y := ahF (fun t => w.testBit ((hd :: R).idxOf t)) (fun t => decide (t ∈ (hd :: R.filter p0))) ((hd :: R).filter (fun t => decide (t < (i + 1))))) (by rw [e9, ahF_1]; exact (ahS_a (p := (fun t => w.testBit ((hd :: R).idxOf t))) (q := (fun t => decide (t ∈ (hd :: R.filter p0)))) hc449).symm) ?_
                      refine V_istore X (lv' := [(15, _), (13, _), (18, _), (17, _), (0, _), (1, _), (2, _), (3, _), (4, _), (5, _), (6, _), (7, _), (8, _), (9, _), (10, _), (11, _), (12, _), (14, _), (16, _)]) (by decide) rfl dL_isMatch_474 ?_
                      refine V_iinc X (lv' := [(14, _), (15, _), (13, _), (18, _), (17, _), (0, _), (1, _), (2, _), (3, _), (4, _), (5, _), (6, _), (7, _), (8, _), (9, _), (10, _), (11, _), (12, _), (16, _)]) (v := nI ((hd :: R).filter (fun t => decide (t < (i + 1)))).length) rfl (by rw [e9, List.length_append, List.length_singleton]; exact nI_1 _) (by decide) rfl dL_isMatch_476 ?_
                      refine V_iinc X (lv' := [(16, _), (14, _), (15, _), (13, _), (18, _), (17, _), (0, _), (1, _), (2, _), (3, _), (4, _), (5, _), (6, _), (7, _), (8, _), (9, _), (10, _), (11, _), (12, _)]) (v := nI (i + 1)) rfl (nI_1 _) (by decide) rfl dL_isMatch_479 ?_
                      refine V_goto X (tgt := 370) (by decide) dL_isMatch_482 ?_
                      refine V.lvs (lv' := [(0, _), (1, _), (2, _), (3, _), (4, _), (5, _), (6, _), (7, _), (8, _), (9, _), (10, _), (11, _), (12, _), (13, _), (14, _), (15, _), (16, _)]) rfl ?_
                      exact ih (zN oz 1 - (i + 1)) (by omega) (i + 1) rfl (by omega)
                    · refine V_iload X rfl dL_isMatch_452 ?_
                      refine V_iload X rfl dL_isMatch_454 ?_
                      refine V_icmp_ne X (tgt := 464) (by decide) dL_isMatch_456 (fun hc456 => ?_) (fun hc456 => absurd hc456 (by decide))
                      refine V_iload X rfl dL_isMatch_464 ?_
                      refine V_if_eq X (tgt := 473) (by decide) dL_isMatch_466 (fun hc466 => ?_) (fun hc466 => absurd hc466 (by decide))
                      refine V_iconst X (v := (-1)) (by decide) dL_isMatch_473 ?_
                      refine V.top (y := ahF (fun t => w.testBit ((hd :: R).idxOf t)) (fun t => decide (t ∈ (hd :: R.filter p0))) ((hd :: R).filter (fun t => decide (t < (i + 1))))) (by rw [e9, ahF_1]; exact (ahS_f (p := (fun t => w.testBit ((hd :: R).idxOf t))) (q := (fun t => decide (t ∈ (hd :: R.filter p0)))) hc449 (show w.testBit ((hd :: R).idxOf i) = false by rw [idx_lt hTs hin]; exact (Bool.not_eq_true _).mp hpw) (show decide (i ∈ (hd :: R.filter p0)) = true from decide_eq_true hia)).symm) ?_
                      refine V_istore X (lv' := [(15, _), (13, _), (18, _), (17, _), (0, _), (1, _), (2, _), (3, _), (4, _), (5, _), (6, _), (7, _), (8, _), (9, _), (10, _), (11, _), (12, _), (14, _), (16, _)]) (by decide) rfl dL_isMatch_474 ?_
                      refine V_iinc X (lv' := [(14, _), (15, _), (13, _), (18, _), (17, _), (0, _), (1, _), (2, _), (3, _), (4, _), (5, _), (6, _), (7, _), (8, _), (9, _), (10, _), (11, _), (12, _), (16, _)]) (v := nI ((hd :: R).filter (fun t => decide (t < (i + 1)))).length) rfl (by rw [e9, List.length_append, List.length_singleton]; exact nI_1 _) (by decide) rfl dL_isMatch_476 ?_
                      refine V_iinc X (lv' := [(16, _), (14, _), (15, _), (13, _), (18, _), (17, _), (0, _), (1, _), (2, _), (3, _), (4, _), (5, _), (6, _), (7, _), (8, _), (9, _), (10, _), (11, _), (12, _)]) (v := nI (i + 1)) rfl (nI_1 _) (by decide) rfl dL_isMatch_479 ?_
                      refine V_goto X (tgt := 370) (by decide) dL_isMatch_482 ?_
                      refine V.lvs (lv' := [(0, _), (1, _), (2, _), (3, _), (4, _), (5, _), (6, _), (7, _), (8, _), (9, _), (10, _), (11, _), (12, _), (13, _), (14, _), (15, _), (16, _)]) rfl ?_
                      exact ih (zN oz 1 - (i + 1)) (by omega) (i + 1) rfl (by omega)
                  · refine V_aload_n X rfl dL_isMatch_408 ?_
                    refine V_iload X rfl dL_isMatch_409 ?_
                    refine V_callSp X (rest := _) (c_L_players _ _ _ A lq la hA (i) (by have := hI.nt; have := hlt; omega) (P (i)) (S (i)) (Q (i)) (M (i)) (hI.ok hlt) (hI.q hlt)) gL_isMatch_L_players rfl hds_L_players (Nat.le_of_ble_eq_true rfl) (Nat.le_of_ble_eq_true rfl) rfl (Nat.le_of_ble_eq_true rfl) dL_isMatch_411 ?_
                    refine V_iload X rfl dL_isMatch_414 ?_
                    refine V_iand X dL_isMatch_416 ?_
                    refine V_if_eq X (tgt := 424) (by decide) dL_isMatch_417 (fun hc417 => ?_) (fun hc417 => absurd hc417 (not_not_intro (by rw [← ha2]; exact (PK.in hS hI hTA hlt h7).mpr hia)))
                    refine V_iconst X (v := 0) (by decide) dL_isMatch_424 ?_
                    refine V_istore X (lv' := [(18, _), (17, _), (0, _), (1, _), (2, _), (3, _), (4, _), (5, _), (6, _), (7, _), (8, _), (9, _), (10, _), (11, _), (12, _), (13, _), (14, _), (15, _), (16, _)]) (by decide) rfl dL_isMatch_425 ?_
                    refine V_iload X rfl dL_isMatch_427 ?_
                    refine V_iload X rfl dL_isMatch_429 ?_
                    refine V_if_eq X (tgt := 443) (by decide) dL_isMatch_431 (fun hc431 => ?_) (fun hc431 => absurd hc431 (by decide))
                    refine V_iconst X (v := 0) (by decide) dL_isMatch_443 ?_
                    refine V_ior X dL_isMatch_444 ?_
                    refine V.top (y := q_U (oi 5) (((hd :: R).filter (fun t => decide (t < (i + 1)))).filter (fun t => w.testBit ((hd :: R).idxOf t)))) (by rw [e9, List.filter_append, show List.filter (fun t => w.testBit ((hd :: R).idxOf t)) [i] = [] from List.filter_cons_of_neg (show ¬ w.testBit ((hd :: R).idxOf i) = true by rw [idx_lt hTs hin]; exact hpw), List.append_nil, or32_0]) ?_
                    refine V_istore X (lv' := [(13, _), (18, _), (17, _), (0, _), (1, _), (2, _), (3, _), (4, _), (5, _), (6, _), (7, _), (8, _), (9, _), (10, _), (11, _), (12, _), (14, _), (15, _), (16, _)]) (by decide) rfl dL_isMatch_445 ?_
                    refine V_iload X rfl dL_isMatch_447 ?_
                    refine V_if_ne X (tgt := 459) (by decide) dL_isMatch_449 (fun hc449 => ?_) (fun hc449 => ?_)
                    · refine V_iload X rfl dL_isMatch_459 ?_
                      refine V_goto X (tgt := 474) (by decide) dL_isMatch_461 ?_
                      refine V.top (y := ahF (fun t => w.testBit ((hd :: R).idxOf t)) (fun t => decide (t ∈ (hd :: R.filter p0))) ((hd :: R).filter (fun t => decide (t < (i + 1))))) (by rw [e9, ahF_1]; exact (ahS_a (p := (fun t => w.testBit ((hd :: R).idxOf t))) (q := (fun t => decide (t ∈ (hd :: R.filter p0)))) hc449).symm) ?_
                      refine V_istore X (lv' := [(15, _), (13, _), (18, _), (17, _), (0, _), (1, _), (2, _), (3, _), (4, _), (5, _), (6, _), (7, _), (8, _), (9, _), (10, _), (11, _), (12, _), (14, _), (16, _)]) (by decide) rfl dL_isMatch_474 ?_
                      refine V_iinc X (lv' := [(14, _), (15, _), (13, _), (18, _), (17, _), (0, _), (1, _), (2, _), (3, _), (4, _), (5, _), (6, _), (7, _), (8, _), (9, _), (10, _), (11, _), (12, _), (16, _)]) (v := nI ((hd :: R).filter (fun t => decide (t < (i + 1)))).length) rfl (by rw [e9, List.length_append, List.length_singleton]; exact nI_1 _) (by decide) rfl dL_isMatch_476 ?_
                      refine V_iinc X (lv' := [(16, _), (14, _), (15, _), (13, _), (18, _), (17, _), (0, _), (1, _), (2, _), (3, _), (4, _), (5, _), (6, _), (7, _), (8, _), (9, _), (10, _), (11, _), (12, _)]) (v := nI (i + 1)) rfl (nI_1 _) (by decide) rfl dL_isMatch_479 ?_
                      refine V_goto X (tgt := 370) (by decide) dL_isMatch_482 ?_
                      refine V.lvs (lv' := [(0, _), (1, _), (2, _), (3, _), (4, _), (5, _), (6, _), (7, _), (8, _), (9, _), (10, _), (11, _), (12, _), (13, _), (14, _), (15, _), (16, _)]) rfl ?_
                      exact ih (zN oz 1 - (i + 1)) (by omega) (i + 1) rfl (by omega)
                    · refine V_iload X rfl dL_isMatch_452 ?_
                      refine V_iload X rfl dL_isMatch_454 ?_
                      refine V_icmp_ne X (tgt := 464) (by decide) dL_isMatch_456 (fun hc456 => absurd hc456 (by decide)) (fun hc456 => ?_)
                      refine V_iload X rfl dL_isMatch_459 ?_
                      refine V_goto X (tgt := 474) (by decide) dL_isMatch_461 ?_
                      refine V.top (y := ahF (fun t => w.testBit ((hd :: R).idxOf t)) (fun t => decide (t ∈ (hd :: R.filter p0))) ((hd :: R).filter (fun t => decide (t < (i + 1))))) (by rw [e9, ahF_1]; exact (ahS_e (p := (fun t => w.testBit ((hd :: R).idxOf t))) (q := (fun t => decide (t ∈ (hd :: R.filter p0)))) ((show w.testBit ((hd :: R).idxOf i) = false by rw [idx_lt hTs hin]; exact (Bool.not_eq_true _).mp hpw).trans (show decide (i ∈ (hd :: R.filter p0)) = false from decide_eq_false hia).symm)).symm) ?_
                      refine V_istore X (lv' := [(15, _), (13, _), (18, _), (17, _), (0, _), (1, _), (2, _), (3, _), (4, _), (5, _), (6, _), (7, _), (8, _), (9, _), (10, _), (11, _), (12, _), (14, _), (16, _)]) (by decide) rfl dL_isMatch_474 ?_
                      refine V_iinc X (lv' := [(14, _), (15, _), (13, _), (18, _), (17, _), (0, _), (1, _), (2, _), (3, _), (4, _), (5, _), (6, _), (7, _), (8, _), (9, _), (10, _), (11, _), (12, _), (16, _)]) (v := nI ((hd :: R).filter (fun t => decide (t < (i + 1)))).length) rfl (by rw [e9, List.length_append, List.length_singleton]; exact nI_1 _) (by decide) rfl dL_isMatch_476 ?_
                      refine V_iinc X (lv' := [(16, _), (14, _), (15, _), (13, _), (18, _), (17, _), (0, _), (1, _), (2, _), (3, _), (4, _), (5, _), (6, _), (7, _), (8, _), (9, _), (10, _), (11, _), (12, _)]) (v := nI (i + 1)) rfl (nI_1 _) (by decide) rfl dL_isMatch_479 ?_
                      refine V_goto X (tgt := 370) (by decide) dL_isMatch_482 ?_
                      refine V.lvs (lv' := [(0, _), (1, _), (2, _), (3, _), (4, _), (5, _), (6, _), (7, _), (8, _), (9, _), (10, _), (11, _), (12, _), (13, _), (14, _), (15, _), (16, _)]) rfl ?_
                      exact ih (zN oz 1 - (i + 1)) (by omega) (i + 1) rfl (by omega)
              · refine V_aload_n X rfl dL_isMatch_378 ?_
                refine V_iload X rfl dL_isMatch_379 ?_
                refine V_callSp X (rest := _) (c_L_queues _ _ _ A lq la hA (i) (by have := hI.nt; have := hlt; omega) (P (i)) (S (i)) (Q (i)) (M (i)) (hI.ok hlt) (hI.q hlt)) gL_isMatch_L_queues rfl hds_L_queues (Nat.le_of_ble_eq_true rfl) (Nat.le_of_ble_eq_true rfl) rfl (Nat.le_of_ble_eq_true rfl) dL_isMatch_381 ?_
                refine V.top (y := 1) (by rw [decide_eq_true ((SI.q1 hS hI hlt).mpr h7)]; rfl) ?_
                refine V_if_eq X (tgt := 479) (by decide) dL_isMatch_384 (fun hc384 => absurd hc384 (by decide)) (fun hc384 => ?_)
                refine V_aload_n X rfl dL_isMatch_387 ?_
                refine V_iload X rfl dL_isMatch_388 ?_
                refine V_callSp X (rest := _) (c_L_players _ _ _ A lq la hA (i) (by have := hI.nt; have := hlt; omega) (P (i)) (S (i)) (Q (i)) (M (i)) (hI.ok hlt) (hI.q hlt)) gL_isMatch_L_players rfl hds_L_players (Nat.le_of_ble_eq_true rfl) (Nat.le_of_ble_eq_true rfl) rfl (Nat.le_of_ble_eq_true rfl) dL_isMatch_390 ?_
                refine V_iload X rfl dL_isMatch_393 ?_
                refine V_iand X dL_isMatch_395 ?_
                refine V_if_eq X (tgt := 479) (by decide) dL_isMatch_396 (fun hc396 => ?_) (fun hc396 => absurd hc396 (not_not_intro ((PK.in hS hI hT hlt h7).mpr hout)))
                refine V_iinc X (lv' := [(16, _), (0, _), (1, _), (2, _), (3, _), (4, _), (5, _), (6, _), (7, _), (8, _), (9, _), (10, _), (11, _), (12, _), (13, _), (14, _), (15, _)]) (v := nI (i + 1)) rfl (nI_1 _) (by decide) rfl dL_isMatch_479 ?_
                refine V_goto X (tgt := 370) (by decide) dL_isMatch_482 ?_
                refine V.lvs (lv' := [(0, _), (1, _), (2, _), (3, _), (4, _), (5, _), (6, _), (7, _), (8, _), (9, _), (10, _), (11, _), (12, _), (13, _), (14, _), (15, _), (16, _)]) rfl ?_
                have e9 : ((hd :: R).filter (fun t => decide (t < (i + 1)))) = ((hd :: R).filter (fun t => decide (t < i))) := by rw [flt_lt hTs i, if_neg hout, List.append_nil]
                have h9 := ih (zN oz 1 - (i + 1)) (by omega) (i + 1) rfl (by omega)
                rw [e9] at h9
                exact h9
              · refine V_aload_n X rfl dL_isMatch_378 ?_
                refine V_iload X rfl dL_isMatch_379 ?_
                refine V_callSp X (rest := _) (c_L_queues _ _ _ A lq la hA (i) (by have := hI.nt; have := hlt; omega) (P (i)) (S (i)) (Q (i)) (M (i)) (hI.ok hlt) (hI.q hlt)) gL_isMatch_L_queues rfl hds_L_queues (Nat.le_of_ble_eq_true rfl) (Nat.le_of_ble_eq_true rfl) rfl (Nat.le_of_ble_eq_true rfl) dL_isMatch_381 ?_
                refine V.top (y := 0) (by rw [decide_eq_false (fun q => h7 ((SI.q1 hS hI hlt).mp q))]; rfl) ?_
                refine V_if_eq X (tgt := 479) (by decide) dL_isMatch_384 (fun hc384 => ?_) (fun hc384 => absurd hc384 (by decide))
                refine V_iinc X (lv' := [(16, _), (0, _), (1, _), (2, _), (3, _), (4, _), (5, _), (6, _), (7, _), (8, _), (9, _), (10, _), (11, _), (12, _), (13, _), (14, _), (15, _)]) (v := nI (i + 1)) rfl (nI_1 _) (by decide) rfl dL_isMatch_479 ?_
                refine V_goto X (tgt := 370) (by decide) dL_isMatch_482 ?_
                refine V.lvs (lv' := [(0, _), (1, _), (2, _), (3, _), (4, _), (5, _), (6, _), (7, _), (8, _), (9, _), (10, _), (11, _), (12, _), (13, _), (14, _), (15, _), (16, _)]) rfl ?_
                have e9 : ((hd :: R).filter (fun t => decide (t < (i + 1)))) = ((hd :: R).filter (fun t => decide (t < i))) := by rw [flt_lt hTs i, if_neg hout, List.append_nil]
                have h9 := ih (zN oz 1 - (i + 1)) (by omega) (i + 1) rfl (by omega)
                rw [e9] at h9
                exact h9
        refine V_iload X rfl dL_isMatch_353 ?_
        refine V_if_eq X (tgt := 584) (by decide) dL_isMatch_355 (fun hc355 => absurd hc355 (by decide)) (fun hc355 => ?_)
        refine V_iconst X (v := 0) (by decide) dL_isMatch_358 ?_
        refine V_istore X (lv' := [(13, _), (0, _), (1, _), (2, _), (3, _), (4, _), (5, _), (6, _), (7, _), (8, _), (9, _), (10, _), (11, _), (12, _)]) (by decide) rfl dL_isMatch_359 ?_
        refine V_iconst X (v := 0) (by decide) dL_isMatch_361 ?_
        refine V_istore X (lv' := [(14, _), (13, _), (0, _), (1, _), (2, _), (3, _), (4, _), (5, _), (6, _), (7, _), (8, _), (9, _), (10, _), (11, _), (12, _)]) (by decide) rfl dL_isMatch_362 ?_
        refine V_iconst X (v := 0) (by decide) dL_isMatch_364 ?_
        refine V_istore X (lv' := [(15, _), (14, _), (13, _), (0, _), (1, _), (2, _), (3, _), (4, _), (5, _), (6, _), (7, _), (8, _), (9, _), (10, _), (11, _), (12, _)]) (by decide) rfl dL_isMatch_365 ?_
        refine V_iconst X (v := 0) (by decide) dL_isMatch_367 ?_
        refine V_istore X (lv' := [(16, _), (15, _), (14, _), (13, _), (0, _), (1, _), (2, _), (3, _), (4, _), (5, _), (6, _), (7, _), (8, _), (9, _), (10, _), (11, _), (12, _)]) (by decide) rfl dL_isMatch_368 ?_
        refine V.lvs (lv' := [(0, _), (1, _), (2, _), (3, _), (4, _), (5, _), (6, _), (7, _), (8, _), (9, _), (10, _), (11, _), (12, _), (13, _), (14, _), (15, _), (16, _)]) rfl ?_
        have e0 : ((hd :: R).filter (fun t => decide (t < 0))) = [] := List.filter_eq_nil_iff.mpr (fun t _ => by simp)
        have h9 := LD _ 0 rfl (Nat.zero_le _)
        rw [e0] at h9
        exact h9
  have RST : ∀ f1 : Wo, FrN f f1 → V K f1 128 384 195 [(0, .ref (al (15, 0))), (1, .ref (A 0)), (2, .ref (A 2)), (3, .ref (A 6)), (4, .int (nI mm)), (5, .int (nI xa)), (6, .int (nI xb)), (7, .int (nI hd)), (8, .int (q_U (oi 5) (hd :: R))), (9, .int (nI (hd :: R).length)), (10, .int 1)] [] := by
    intro f1 hN
    have hR := hR.keepA hN.a
    have hA := hA.fr hN.c
    have RC9 : V K f1 128 384 341 [(0, .ref (al (15, 0))), (1, .ref (A 0)), (2, .ref (A 2)), (3, .ref (A 6)), (4, .int (nI mm)), (5, .int (nI xa)), (6, .int (nI xb)), (7, .int (nI hd)), (8, .int (q_U (oi 5) (hd :: R))), (9, .int (nI (hd :: R).length)), (10, .int 1), (11, .int (q_far oi oz (hd :: R.filter p0) (R.filter (fun t => !p0 t))))] [] := by
      refine V_iconst X (v := 0) (by decide) dL_isMatch_341 ?_
      refine V_istore X (lv' := [(12, _), (0, _), (1, _), (2, _), (3, _), (4, _), (5, _), (6, _), (7, _), (8, _), (9, _), (10, _), (11, _)]) (by decide) rfl dL_isMatch_342 ?_
      refine V.lvs (lv' := [(0, _), (1, _), (2, _), (3, _), (4, _), (5, _), (6, _), (7, _), (8, _), (9, _), (10, _), (11, _), (12, _)]) rfl ?_
      exact LC _ 0 rfl (Nat.zero_le _) f1 hN
    have LB : ∀ (n i : Nat), zN oz 1 - i = n → i ≤ zN oz 1 → hd ≤ i → V K f1 128 384 281 [(0, .ref (al (15, 0))), (1, .ref (A 0)), (2, .ref (A 2)), (3, .ref (A 6)), (4, .int (nI mm)), (5, .int (nI xa)), (6, .int (nI xb)), (7, .int (nI hd)), (8, .int (q_U (oi 5) (hd :: R))), (9, .int (nI (hd :: R).length)), (10, .int 1), (11, .int (q_far oi oz (hd :: R.filter p0) (R.filter (fun t => !p0 t)))), (12, .int (nI i))] [] := by
      intro n
      induction n using Nat.strongRecOn with
      | ind n ih =>
        intro i hn hi hdi
        refine V_iload X rfl dL_isMatch_281 ?_
        refine V_aload_n X rfl dL_isMatch_283 ?_
        refine V_iconst X (v := 2) (by decide) dL_isMatch_284 ?_
        refine V_ald X hA 6 (2) 4 (by decide) rfl (by omega) (hI.c2) dL_isMatch_285 ?_
        refine V_icmp_ge X (tgt := 341) (by decide) dL_isMatch_286 (fun hc286 => ?_) (fun hc286 => ?_)
        · refine V.lvs (lv' := [(0, _), (1, _), (2, _), (3, _), (4, _), (5, _), (6, _), (7, _), (8, _), (9, _), (10, _), (11, _)]) rfl ?_
          exact RC9
        · have hlt := lim_lt (N := zN oz 1) rfl hc286 hi (by omega)
          have hcs := hsp i hlt
          rcases hcs with ⟨hin, h7⟩ | ⟨hout, h7⟩ | ⟨hout, h7⟩
          · refine V_iload X rfl dL_isMatch_289 ?_
            refine V_if_eq X (tgt := 341) (by decide) dL_isMatch_291 (fun hc291 => absurd hc291 (by decide)) (fun hc291 => ?_)
            refine V_aload_n X rfl dL_isMatch_294 ?_
            refine V_iload X rfl dL_isMatch_295 ?_
            refine V_callSp X (rest := _) (c_L_queues _ _ _ A lq la hA (i) (by have := hI.nt; have := hlt; omega) (P (i)) (S (i)) (Q (i)) (M (i)) (hI.ok hlt) (hI.q hlt)) gL_isMatch_L_queues rfl hds_L_queues (Nat.le_of_ble_eq_true rfl) (Nat.le_of_ble_eq_true rfl) rfl (Nat.le_of_ble_eq_true rfl) dL_isMatch_297 ?_
            refine V.top (y := 1) (by rw [decide_eq_true ((SI.q1 hS hI hlt).mpr h7)]; rfl) ?_
            refine V_if_eq X (tgt := 328) (by decide) dL_isMatch_300 (fun hc300 => absurd hc300 (by decide)) (fun hc300 => ?_)
            refine V_aload_n X rfl dL_isMatch_303 ?_
            refine V_iload X rfl dL_isMatch_304 ?_
            refine V_callSp X (rest := _) (c_L_players _ _ _ A lq la hA (i) (by have := hI.nt; have := hlt; omega) (P (i)) (S (i)) (Q (i)) (M (i)) (hI.ok hlt) (hI.q hlt)) gL_isMatch_L_players rfl hds_L_players (Nat.le_of_ble_eq_true rfl) (Nat.le_of_ble_eq_true rfl) rfl (Nat.le_of_ble_eq_true rfl) dL_isMatch_306 ?_
            refine V_iload X rfl dL_isMatch_309 ?_
            refine V_iand X dL_isMatch_311 ?_
            refine V_if_eq X (tgt := 328) (by decide) dL_isMatch_312 (fun hc312 => absurd hc312 (fun q => (PK.in hS hI hT hlt h7).mp q hin)) (fun hc312 => ?_)
            refine V_aload_n X rfl dL_isMatch_315 ?_
            refine V_aload_n X rfl dL_isMatch_316 ?_
            refine V_aload_n X rfl dL_isMatch_317 ?_
            refine V_iload X rfl dL_isMatch_318 ?_
            refine V_iload X rfl dL_isMatch_320 ?_
            refine V_callSp X (rest := _) (c_L_fit _ _ _ al fi z hR A lq la hA (nI c) hI.c0 hd (by omega) (P _) (S _) (Q _) (M _) (hI.ok ((hT hd List.mem_cons_self).1)) (hI.q ((hT hd List.mem_cons_self).1)) (fun k a b => hz0 ▸ SI.in hS hI ((hT hd List.mem_cons_self).1) k a b) (SI.len hS hI ((hT hd List.mem_cons_self).1)).1 i (by omega) (P _) (S _) (Q _) (M _) (hI.ok hlt) (hI.q hlt) (fun k a b => hz0 ▸ SI.in hS hI hlt k a b) (SI.len hS hI hlt).1) gL_isMatch_L_fit rfl hds_L_fit (Nat.le_of_ble_eq_true rfl) (Nat.le_of_ble_eq_true rfl) rfl (Nat.le_of_ble_eq_true rfl) dL_isMatch_322 ?_
            refine V.top (y := 1) (by rw [show mnP fi = mnP oi by unfold mnP; rw [h1], SI.fit hS hI ((hT hd List.mem_cons_self).1) hlt, ftC_sy hS ((hT hd List.mem_cons_self).1) hlt, hft i hin]; rfl) ?_
            refine V_if_eq X (tgt := 332) (by decide) dL_isMatch_325 (fun hc325 => absurd hc325 (by decide)) (fun hc325 => ?_)
            refine V_iconst X (v := 1) (by decide) dL_isMatch_328 ?_
            refine V_goto X (tgt := 333) (by decide) dL_isMatch_329 ?_
            refine V_istore X (lv' := [(10, _), (0, _), (1, _), (2, _), (3, _), (4, _), (5, _), (6, _), (7, _), (8, _), (9, _), (11, _), (12, _)]) (by decide) rfl dL_isMatch_333 ?_
            refine V_iinc X (lv' := [(12, _), (10, _), (0, _), (1, _), (2, _), (3, _), (4, _), (5, _), (6, _), (7, _), (8, _), (9, _), (11, _)]) (v := nI (i + 1)) rfl (nI_1 _) (by decide) rfl dL_isMatch_335 ?_
            refine V_goto X (tgt := 281) (by decide) dL_isMatch_338 ?_
            refine V.lvs (lv' := [(0, _), (1, _), (2, _), (3, _), (4, _), (5, _), (6, _), (7, _), (8, _), (9, _), (10, _), (11, _), (12, _)]) rfl ?_
            exact ih (zN oz 1 - (i + 1)) (by omega) (i + 1) rfl (by omega) (by omega)
          · refine V_iload X rfl dL_isMatch_289 ?_
            refine V_if_eq X (tgt := 341) (by decide) dL_isMatch_291 (fun hc291 => absurd hc291 (by decide)) (fun hc291 => ?_)
            refine V_aload_n X rfl dL_isMatch_294 ?_
            refine V_iload X rfl dL_isMatch_295 ?_
            refine V_callSp X (rest := _) (c_L_queues _ _ _ A lq la hA (i) (by have := hI.nt; have := hlt; omega) (P (i)) (S (i)) (Q (i)) (M (i)) (hI.ok hlt) (hI.q hlt)) gL_isMatch_L_queues rfl hds_L_queues (Nat.le_of_ble_eq_true rfl) (Nat.le_of_ble_eq_true rfl) rfl (Nat.le_of_ble_eq_true rfl) dL_isMatch_297 ?_
            refine V.top (y := 1) (by rw [decide_eq_true ((SI.q1 hS hI hlt).mpr h7)]; rfl) ?_
            refine V_if_eq X (tgt := 328) (by decide) dL_isMatch_300 (fun hc300 => absurd hc300 (by decide)) (fun hc300 => ?_)
            refine V_aload_n X rfl dL_isMatch_303 ?_
            refine V_iload X rfl dL_isMatch_304 ?_
            refine V_callSp X (rest := _) (c_L_players _ _ _ A lq la hA (i) (by have := hI.nt; have := hlt; omega) (P (i)) (S (i)) (Q (i)) (M (i)) (hI.ok hlt) (hI.q hlt)) gL_isMatch_L_players rfl hds_L_players (Nat.le_of_ble_eq_true rfl) (Nat.le_of_ble_eq_true rfl) rfl (Nat.le_of_ble_eq_true rfl) dL_isMatch_306 ?_
            refine V_iload X rfl dL_isMatch_309 ?_
            refine V_iand X dL_isMatch_311 ?_
            refine V_if_eq X (tgt := 328) (by decide) dL_isMatch_312 (fun hc312 => ?_) (fun hc312 => absurd hc312 (not_not_intro ((PK.in hS hI hT hlt h7).mpr hout)))
            refine V_iconst X (v := 1) (by decide) dL_isMatch_328 ?_
            refine V_goto X (tgt := 333) (by decide) dL_isMatch_329 ?_
            refine V_istore X (lv' := [(10, _), (0, _), (1, _), (2, _), (3, _), (4, _), (5, _), (6, _), (7, _), (8, _), (9, _), (11, _), (12, _)]) (by decide) rfl dL_isMatch_333 ?_
            refine V_iinc X (lv' := [(12, _), (10, _), (0, _), (1, _), (2, _), (3, _), (4, _), (5, _), (6, _), (7, _), (8, _), (9, _), (11, _)]) (v := nI (i + 1)) rfl (nI_1 _) (by decide) rfl dL_isMatch_335 ?_
            refine V_goto X (tgt := 281) (by decide) dL_isMatch_338 ?_
            refine V.lvs (lv' := [(0, _), (1, _), (2, _), (3, _), (4, _), (5, _), (6, _), (7, _), (8, _), (9, _), (10, _), (11, _), (12, _)]) rfl ?_
            exact ih (zN oz 1 - (i + 1)) (by omega) (i + 1) rfl (by omega) (by omega)
          · refine V_iload X rfl dL_isMatch_289 ?_
            refine V_if_eq X (tgt := 341) (by decide) dL_isMatch_291 (fun hc291 => absurd hc291 (by decide)) (fun hc291 => ?_)
            refine V_aload_n X rfl dL_isMatch_294 ?_
            refine V_iload X rfl dL_isMatch_295 ?_
            refine V_callSp X (rest := _) (c_L_queues _ _ _ A lq la hA (i) (by have := hI.nt; have := hlt; omega) (P (i)) (S (i)) (Q (i)) (M (i)) (hI.ok hlt) (hI.q hlt)) gL_isMatch_L_queues rfl hds_L_queues (Nat.le_of_ble_eq_true rfl) (Nat.le_of_ble_eq_true rfl) rfl (Nat.le_of_ble_eq_true rfl) dL_isMatch_297 ?_
            refine V.top (y := 0) (by rw [decide_eq_false (fun q => h7 ((SI.q1 hS hI hlt).mp q))]; rfl) ?_
            refine V_if_eq X (tgt := 328) (by decide) dL_isMatch_300 (fun hc300 => ?_) (fun hc300 => absurd hc300 (by decide))
            refine V_iconst X (v := 1) (by decide) dL_isMatch_328 ?_
            refine V_goto X (tgt := 333) (by decide) dL_isMatch_329 ?_
            refine V_istore X (lv' := [(10, _), (0, _), (1, _), (2, _), (3, _), (4, _), (5, _), (6, _), (7, _), (8, _), (9, _), (11, _), (12, _)]) (by decide) rfl dL_isMatch_333 ?_
            refine V_iinc X (lv' := [(12, _), (10, _), (0, _), (1, _), (2, _), (3, _), (4, _), (5, _), (6, _), (7, _), (8, _), (9, _), (11, _)]) (v := nI (i + 1)) rfl (nI_1 _) (by decide) rfl dL_isMatch_335 ?_
            refine V_goto X (tgt := 281) (by decide) dL_isMatch_338 ?_
            refine V.lvs (lv' := [(0, _), (1, _), (2, _), (3, _), (4, _), (5, _), (6, _), (7, _), (8, _), (9, _), (10, _), (11, _), (12, _)]) rfl ?_
            exact ih (zN oz 1 - (i + 1)) (by omega) (i + 1) rfl (by omega) (by omega)
    refine V_aload_n X rfl dL_isMatch_195 ?_
    refine V_iload X rfl dL_isMatch_196 ?_
    refine V_callSp X (rest := _) (c_L_sum _ _ _ al fi z hR (nI xa) (fun k a b => hz0 ▸ ha5 k a b)) gL_isMatch_L_sum rfl hds_L_sum (Nat.le_of_ble_eq_true rfl) (Nat.le_of_ble_eq_true rfl) rfl (Nat.le_of_ble_eq_true rfl) dL_isMatch_198 ?_
    refine V_aload_n X rfl dL_isMatch_201 ?_
    refine V_iload X rfl dL_isMatch_202 ?_
    refine V_callSp X (rest := _) (c_L_sum _ _ _ al fi z hR (nI xb) (fun k a b => hz0 ▸ hb5 k a b)) gL_isMatch_L_sum rfl hds_L_sum (Nat.le_of_ble_eq_true rfl) (Nat.le_of_ble_eq_true rfl) rfl (Nat.le_of_ble_eq_true rfl) dL_isMatch_204 ?_
    refine V_isub X dL_isMatch_207 ?_
    refine V_istore X (lv' := [(11, _), (0, _), (1, _), (2, _), (3, _), (4, _), (5, _), (6, _), (7, _), (8, _), (9, _), (10, _)]) (by decide) rfl dL_isMatch_208 ?_
    refine V.join (P := fun v9 => v9 = q_far oi oz (hd :: R.filter p0) (R.filter (fun t => !p0 t))) 223 (fun w223 hw223 => ?_) (fun hj223 => ?_)
    · subst hw223
      refine V_istore X (lv' := [(11, _), (0, _), (1, _), (2, _), (3, _), (4, _), (5, _), (6, _), (7, _), (8, _), (9, _), (10, _)]) (by decide) rfl dL_isMatch_223 ?_
      refine V_iload X rfl dL_isMatch_225 ?_
      refine V_if_eq X (tgt := 274) (by decide) dL_isMatch_227 (fun hc227 => absurd hc227 (by decide)) (fun hc227 => ?_)
      refine V_iload X rfl dL_isMatch_230 ?_
      refine V_iload X rfl dL_isMatch_232 ?_
      refine V_iload X rfl dL_isMatch_234 ?_
      refine V_ior X dL_isMatch_236 ?_
      refine V.top (y := q_U (oi 5) (hd :: R)) (by rw [← ha2, ← hb2]; exact PK.or hmem) ?_
      refine V_icmp_ne X (tgt := 274) (by decide) dL_isMatch_237 (fun hc237 => absurd hc237 (fun q => q rfl)) (fun hc237 => ?_)
      refine V_iload X rfl dL_isMatch_240 ?_
      refine V_if_lt X (tgt := 274) (by decide) dL_isMatch_242 (fun hc242 => absurd hc242 (nI_pos (by have := (hT hd List.mem_cons_self).1; omega))) (fun hc242 => ?_)
      refine V_aload_n X rfl dL_isMatch_245 ?_
      refine V_iload X rfl dL_isMatch_246 ?_
      refine V_callSp X (rest := _) (c_L_players _ _ _ A lq la hA (hd) (by have := hI.nt; have := ((hT hd List.mem_cons_self).1); omega) (P (hd)) (S (hd)) (Q (hd)) (M (hd)) (hI.ok ((hT hd List.mem_cons_self).1)) (hI.q ((hT hd List.mem_cons_self).1))) gL_isMatch_L_players rfl hds_L_players (Nat.le_of_ble_eq_true rfl) (Nat.le_of_ble_eq_true rfl) rfl (Nat.le_of_ble_eq_true rfl) dL_isMatch_248 ?_
      refine V_iload X rfl dL_isMatch_251 ?_
      refine V_iconst X (v := (-1)) (by decide) dL_isMatch_253 ?_
      refine V_ixor X dL_isMatch_254 ?_
      refine V_iand X dL_isMatch_255 ?_
      refine V_if_ne X (tgt := 274) (by decide) dL_isMatch_256 (fun hc256 => absurd hc256 (fun q => q (by rw [← ha2]; exact (PK.sub hS hI hTA ((hT hd List.mem_cons_self).1) (hT hd List.mem_cons_self).2).mpr List.mem_cons_self))) (fun hc256 => ?_)
      refine V_aload_n X rfl dL_isMatch_259 ?_
      refine V_iload X rfl dL_isMatch_260 ?_
      refine V_callVp X (rest := _) (c_X5_unevenness_t _ _ _ al fi z hR mm hmm) (hR.2.1 (15, 0) dm15) rfl gL_isMatch_X5_unevenness rfl hdv_X5_unevenness (Nat.le_of_ble_eq_true rfl) (Nat.le_of_ble_eq_true rfl) rfl (Nat.le_of_ble_eq_true rfl) dL_isMatch_262 ?_
      refine V_iload X rfl dL_isMatch_265 ?_
      refine V_icmp_ne X (tgt := 274) (by decide) dL_isMatch_267 (fun hc267 => absurd hc267 (fun q => q h11)) (fun hc267 => ?_)
      refine V_iconst X (v := 1) (by decide) dL_isMatch_270 ?_
      refine V_goto X (tgt := 275) (by decide) dL_isMatch_271 ?_
      refine V_istore X (lv' := [(10, _), (11, _), (0, _), (1, _), (2, _), (3, _), (4, _), (5, _), (6, _), (7, _), (8, _), (9, _)]) (by decide) rfl dL_isMatch_275 ?_
      refine V_iload X rfl dL_isMatch_277 ?_
      refine V_istore X (lv' := [(12, _), (10, _), (11, _), (0, _), (1, _), (2, _), (3, _), (4, _), (5, _), (6, _), (7, _), (8, _), (9, _)]) (by decide) rfl dL_isMatch_279 ?_
      refine V.lvs (lv' := [(0, _), (1, _), (2, _), (3, _), (4, _), (5, _), (6, _), (7, _), (8, _), (9, _), (10, _), (11, _), (12, _)]) rfl ?_
      exact LB _ hd rfl (by have := ((hT hd List.mem_cons_self).1); omega) (Nat.le_refl _)
    · refine V_iload X rfl dL_isMatch_210 ?_
      refine V_if_ge X (tgt := 221) (by decide) dL_isMatch_212 (fun hc212 => ?_) (fun hc212 => ?_)
      · refine V_iload X rfl dL_isMatch_221 ?_
        exact hj223 _ ((by rw [← hfar]; exact (if_pos hc212).symm))
      · refine V_iload X rfl dL_isMatch_215 ?_
        refine V_ineg X dL_isMatch_217 ?_
        refine V_goto X (tgt := 223) (by decide) dL_isMatch_218 ?_
        exact hj223 _ ((by rw [← hfar]; exact (if_neg hc212).symm))
  have LA9 : ∀ (f1 : Wo), FrN f f1 → ∀ i, i ≤ zN oz 1 → V K f1 128 384 59 [(0, .ref (al (15, 0))), (1, .ref (A 0)), (2, .ref (A 2)), (3, .ref (A 6)), (4, .int (nI mm)), (5, .int (nI xa)), (6, .int (nI xb)), (7, .int (firI ((hd :: R).filter (fun t => decide (i ≤ t))))), (8, .int (q_U (oi 5) ((hd :: R).filter (fun t => decide (i ≤ t))))), (9, .int (nI ((hd :: R).filter (fun t => decide (i ≤ t))).length)), (10, .int 1), (11, .int (nI i - 1))] [] := by
    intro f1 hN i
    have hR := hR.keepA hN.a
    have hA := hA.fr hN.c
    induction i with
    | zero =>
      intro _
      refine V_iload X rfl dL_isMatch_59 ?_
      refine V_if_lt X (tgt := 195) (by decide) dL_isMatch_61 (fun hc61 => ?_) (fun hc61 => absurd hc61 (by decide))
      refine V.lvs (lv' := [(0, _), (1, _), (2, _), (3, _), (4, _), (5, _), (6, _), (7, _), (8, _), (9, _), (10, _)]) rfl ?_
      rw [flt_0]
      exact RST f1 hN
    | succ i ih =>
      intro hi
      rw [nI_pred]
      refine V_iload X rfl dL_isMatch_59 ?_
      refine V_if_lt X (tgt := 195) (by decide) dL_isMatch_61 (fun hc61 => absurd hc61 (nI_pos (by omega))) (fun hc61 => ?_)
      have hlt : i < zN oz 1 := hi
      have hcs := hsp4 i hlt
      rcases hcs with ⟨hia, hin, h7⟩ | ⟨hib, hna, hin, h7⟩ | ⟨hout, h7⟩ | ⟨hout, h7⟩
      · refine V_aload_n X rfl dL_isMatch_64 ?_
        refine V_iload X rfl dL_isMatch_65 ?_
        refine V_callSp X (rest := _) (c_L_queues _ _ _ A lq la hA (i) (by have := hI.nt; have := hlt; omega) (P (i)) (S (i)) (Q (i)) (M (i)) (hI.ok hlt) (hI.q hlt)) gL_isMatch_L_queues rfl hds_L_queues (Nat.le_of_ble_eq_true rfl) (Nat.le_of_ble_eq_true rfl) rfl (Nat.le_of_ble_eq_true rfl) dL_isMatch_67 ?_
        refine V.top (y := 1) (by rw [decide_eq_true ((SI.q1 hS hI hlt).mpr h7)]; rfl) ?_
        refine V_if_eq X (tgt := 92) (by decide) dL_isMatch_70 (fun hc70 => absurd hc70 (by decide)) (fun hc70 => ?_)
        refine V_aload_n X rfl dL_isMatch_73 ?_
        refine V_iload X rfl dL_isMatch_74 ?_
        refine V_callSp X (rest := _) (c_L_players _ _ _ A lq la hA (i) (by have := hI.nt; have := hlt; omega) (P (i)) (S (i)) (Q (i)) (M (i)) (hI.ok hlt) (hI.q hlt)) gL_isMatch_L_players rfl hds_L_players (Nat.le_of_ble_eq_true rfl) (Nat.le_of_ble_eq_true rfl) rfl (Nat.le_of_ble_eq_true rfl) dL_isMatch_76 ?_
        refine V_iload X rfl dL_isMatch_79 ?_
        refine V_iload X rfl dL_isMatch_81 ?_
        refine V_ior X dL_isMatch_83 ?_
        refine V.top (y := q_U (oi 5) (hd :: R)) (by rw [← ha2, ← hb2]; exact PK.or hmem) ?_
        refine V_iand X dL_isMatch_84 ?_
        refine V_if_eq X (tgt := 92) (by decide) dL_isMatch_85 (fun hc85 => absurd hc85 (fun q => (PK.in hS hI hT hlt h7).mp q hin)) (fun hc85 => ?_)
        refine V_iconst X (v := 1) (by decide) dL_isMatch_88 ?_
        refine V_goto X (tgt := 93) (by decide) dL_isMatch_89 ?_
        refine V_istore X (lv' := [(12, _), (0, _), (1, _), (2, _), (3, _), (4, _), (5, _), (6, _), (7, _), (8, _), (9, _), (10, _), (11, _)]) (by decide) rfl dL_isMatch_93 ?_
        refine V_iload X rfl dL_isMatch_95 ?_
        refine V_if_eq X (tgt := 137) (by decide) dL_isMatch_97 (fun hc97 => absurd hc97 (by decide)) (fun hc97 => ?_)
        refine V_iload X rfl dL_isMatch_100 ?_
        refine V_if_eq X (tgt := 133) (by decide) dL_isMatch_102 (fun hc102 => absurd hc102 (by decide)) (fun hc102 => ?_)
        refine V_aload_n X rfl dL_isMatch_105 ?_
        refine V_iload X rfl dL_isMatch_106 ?_
        refine V_callSp X (rest := _) (c_L_players _ _ _ A lq la hA (i) (by have := hI.nt; have := hlt; omega) (P (i)) (S (i)) (Q (i)) (M (i)) (hI.ok hlt) (hI.q hlt)) gL_isMatch_L_players rfl hds_L_players (Nat.le_of_ble_eq_true rfl) (Nat.le_of_ble_eq_true rfl) rfl (Nat.le_of_ble_eq_true rfl) dL_isMatch_108 ?_
        refine V_iload X rfl dL_isMatch_111 ?_
        refine V_iconst X (v := (-1)) (by decide) dL_isMatch_113 ?_
        refine V_ixor X dL_isMatch_114 ?_
        refine V_iand X dL_isMatch_115 ?_
        refine V_if_eq X (tgt := 133) (by decide) dL_isMatch_116 (fun hc116 => ?_) (fun hc116 => absurd hc116 (not_not_intro (by rw [← ha2]; exact (PK.sub hS hI hTA hlt h7).mpr hia)))
        refine V_iconst X (v := 1) (by decide) dL_isMatch_133 ?_
        refine V_goto X (tgt := 138) (by decide) dL_isMatch_134 ?_
        refine V_istore X (lv' := [(10, _), (12, _), (0, _), (1, _), (2, _), (3, _), (4, _), (5, _), (6, _), (7, _), (8, _), (9, _), (11, _)]) (by decide) rfl dL_isMatch_138 ?_
        refine V_iload X rfl dL_isMatch_140 ?_
        refine V_if_eq X (tgt := 150) (by decide) dL_isMatch_142 (fun hc142 => absurd hc142 (by decide)) (fun hc142 => ?_)
        refine V_iload X rfl dL_isMatch_145 ?_
        refine V_goto X (tgt := 152) (by decide) dL_isMatch_147 ?_
        refine V.top (y := firI ((hd :: R).filter (fun t => decide (i ≤ t)))) (by rw [flt_ge hTs i, if_pos hin]; rfl) ?_
        refine V_istore X (lv' := [(7, _), (10, _), (12, _), (0, _), (1, _), (2, _), (3, _), (4, _), (5, _), (6, _), (8, _), (9, _), (11, _)]) (by decide) rfl dL_isMatch_152 ?_
        refine V_iload X rfl dL_isMatch_154 ?_
        refine V_iload X rfl dL_isMatch_156 ?_
        refine V_if_eq X (tgt := 170) (by decide) dL_isMatch_158 (fun hc158 => absurd hc158 (by decide)) (fun hc158 => ?_)
        refine V_aload_n X rfl dL_isMatch_161 ?_
        refine V_iload X rfl dL_isMatch_162 ?_
        refine V_callSp X (rest := _) (c_L_players _ _ _ A lq la hA (i) (by have := hI.nt; have := hlt; omega) (P (i)) (S (i)) (Q (i)) (M (i)) (hI.ok hlt) (hI.q hlt)) gL_isMatch_L_players rfl hds_L_players (Nat.le_of_ble_eq_true rfl) (Nat.le_of_ble_eq_true rfl) rfl (Nat.le_of_ble_eq_true rfl) dL_isMatch_164 ?_
        refine V_goto X (tgt := 171) (by decide) dL_isMatch_167 ?_
        refine V_ior X dL_isMatch_171 ?_
        refine V.top (y := q_U (oi 5) ((hd :: R).filter (fun t => decide (i ≤ t)))) (by rw [flt_ge hTs i, if_pos hin, or32_c, ← SI.p5 hS hI hlt]; rfl) ?_
        refine V_istore X (lv' := [(8, _), (7, _), (10, _), (12, _), (0, _), (1, _), (2, _), (3, _), (4, _), (5, _), (6, _), (9, _), (11, _)]) (by decide) rfl dL_isMatch_172 ?_
        refine V_iload X rfl dL_isMatch_174 ?_
        refine V_iload X rfl dL_isMatch_176 ?_
        refine V_if_eq X (tgt := 185) (by decide) dL_isMatch_178 (fun hc178 => absurd hc178 (by decide)) (fun hc178 => ?_)
        refine V_iconst X (v := 1) (by decide) dL_isMatch_181 ?_
        refine V_goto X (tgt := 186) (by decide) dL_isMatch_182 ?_
        refine V_iadd X dL_isMatch_186 ?_
        refine V.top (y := nI ((hd :: R).filter (fun t => decide (i ≤ t))).length) (by rw [flt_ge hTs i, if_pos hin, nI_1]; rfl) ?_
        refine V_istore X (lv' := [(9, _), (8, _), (7, _), (10, _), (12, _), (0, _), (1, _), (2, _), (3, _), (4, _), (5, _), (6, _), (11, _)]) (by decide) rfl dL_isMatch_187 ?_
        refine V_iinc X (lv' := [(11, _), (9, _), (8, _), (7, _), (10, _), (12, _), (0, _), (1, _), (2, _), (3, _), (4, _), (5, _), (6, _)]) (v := nI i - 1) rfl (by rw [show Int32.ofInt (-1) = -1 from by decide, ← Int32.sub_eq_add_neg]) (by decide) rfl dL_isMatch_189 ?_
        refine V_goto X (tgt := 59) (by decide) dL_isMatch_192 ?_
        refine V.lvs (lv' := [(0, _), (1, _), (2, _), (3, _), (4, _), (5, _), (6, _), (7, _), (8, _), (9, _), (10, _), (11, _)]) rfl ?_
        exact ih (by omega)
      · refine V_aload_n X rfl dL_isMatch_64 ?_
        refine V_iload X rfl dL_isMatch_65 ?_
        refine V_callSp X (rest := _) (c_L_queues _ _ _ A lq la hA (i) (by have := hI.nt; have := hlt; omega) (P (i)) (S (i)) (Q (i)) (M (i)) (hI.ok hlt) (hI.q hlt)) gL_isMatch_L_queues rfl hds_L_queues (Nat.le_of_ble_eq_true rfl) (Nat.le_of_ble_eq_true rfl) rfl (Nat.le_of_ble_eq_true rfl) dL_isMatch_67 ?_
        refine V.top (y := 1) (by rw [decide_eq_true ((SI.q1 hS hI hlt).mpr h7)]; rfl) ?_
        refine V_if_eq X (tgt := 92) (by decide) dL_isMatch_70 (fun hc70 => absurd hc70 (by decide)) (fun hc70 => ?_)
        refine V_aload_n X rfl dL_isMatch_73 ?_
        refine V_iload X rfl dL_isMatch_74 ?_
        refine V_callSp X (rest := _) (c_L_players _ _ _ A lq la hA (i) (by have := hI.nt; have := hlt; omega) (P (i)) (S (i)) (Q (i)) (M (i)) (hI.ok hlt) (hI.q hlt)) gL_isMatch_L_players rfl hds_L_players (Nat.le_of_ble_eq_true rfl) (Nat.le_of_ble_eq_true rfl) rfl (Nat.le_of_ble_eq_true rfl) dL_isMatch_76 ?_
        refine V_iload X rfl dL_isMatch_79 ?_
        refine V_iload X rfl dL_isMatch_81 ?_
        refine V_ior X dL_isMatch_83 ?_
        refine V.top (y := q_U (oi 5) (hd :: R)) (by rw [← ha2, ← hb2]; exact PK.or hmem) ?_
        refine V_iand X dL_isMatch_84 ?_
        refine V_if_eq X (tgt := 92) (by decide) dL_isMatch_85 (fun hc85 => absurd hc85 (fun q => (PK.in hS hI hT hlt h7).mp q hin)) (fun hc85 => ?_)
        refine V_iconst X (v := 1) (by decide) dL_isMatch_88 ?_
        refine V_goto X (tgt := 93) (by decide) dL_isMatch_89 ?_
        refine V_istore X (lv' := [(12, _), (0, _), (1, _), (2, _), (3, _), (4, _), (5, _), (6, _), (7, _), (8, _), (9, _), (10, _), (11, _)]) (by decide) rfl dL_isMatch_93 ?_
        refine V_iload X rfl dL_isMatch_95 ?_
        refine V_if_eq X (tgt := 137) (by decide) dL_isMatch_97 (fun hc97 => absurd hc97 (by decide)) (fun hc97 => ?_)
        refine V_iload X rfl dL_isMatch_100 ?_
        refine V_if_eq X (tgt := 133) (by decide) dL_isMatch_102 (fun hc102 => absurd hc102 (by decide)) (fun hc102 => ?_)
        refine V_aload_n X rfl dL_isMatch_105 ?_
        refine V_iload X rfl dL_isMatch_106 ?_
        refine V_callSp X (rest := _) (c_L_players _ _ _ A lq la hA (i) (by have := hI.nt; have := hlt; omega) (P (i)) (S (i)) (Q (i)) (M (i)) (hI.ok hlt) (hI.q hlt)) gL_isMatch_L_players rfl hds_L_players (Nat.le_of_ble_eq_true rfl) (Nat.le_of_ble_eq_true rfl) rfl (Nat.le_of_ble_eq_true rfl) dL_isMatch_108 ?_
        refine V_iload X rfl dL_isMatch_111 ?_
        refine V_iconst X (v := (-1)) (by decide) dL_isMatch_113 ?_
        refine V_ixor X dL_isMatch_114 ?_
        refine V_iand X dL_isMatch_115 ?_
        refine V_if_eq X (tgt := 133) (by decide) dL_isMatch_116 (fun hc116 => absurd hc116 (fun q => hna ((PK.sub hS hI hTA hlt h7).mp (by rw [ha2]; exact q)))) (fun hc116 => ?_)
        refine V_aload_n X rfl dL_isMatch_119 ?_
        refine V_iload X rfl dL_isMatch_120 ?_
        refine V_callSp X (rest := _) (c_L_players _ _ _ A lq la hA (i) (by have := hI.nt; have := hlt; omega) (P (i)) (S (i)) (Q (i)) (M (i)) (hI.ok hlt) (hI.q hlt)) gL_isMatch_L_players rfl hds_L_players (Nat.le_of_ble_eq_true rfl) (Nat.le_of_ble_eq_true rfl) rfl (Nat.le_of_ble_eq_true rfl) dL_isMatch_122 ?_
        refine V_iload X rfl dL_isMatch_125 ?_
        refine V_iconst X (v := (-1)) (by decide) dL_isMatch_127 ?_
        refine V_ixor X dL_isMatch_128 ?_
        refine V_iand X dL_isMatch_129 ?_
        refine V_if_ne X (tgt := 137) (by decide) dL_isMatch_130 (fun hc130 => absurd hc130 (fun q => q (by rw [← hb2]; exact (PK.sub hS hI hTB hlt h7).mpr hib))) (fun hc130 => ?_)
        refine V_iconst X (v := 1) (by decide) dL_isMatch_133 ?_
        refine V_goto X (tgt := 138) (by decide) dL_isMatch_134 ?_
        refine V_istore X (lv' := [(10, _), (12, _), (0, _), (1, _), (2, _), (3, _), (4, _), (5, _), (6, _), (7, _), (8, _), (9, _), (11, _)]) (by decide) rfl dL_isMatch_138 ?_
        refine V_iload X rfl dL_isMatch_140 ?_
        refine V_if_eq X (tgt := 150) (by decide) dL_isMatch_142 (fun hc142 => absurd hc142 (by decide)) (fun hc142 => ?_)
        refine V_iload X rfl dL_isMatch_145 ?_
        refine V_goto X (tgt := 152) (by decide) dL_isMatch_147 ?_
        refine V.top (y := firI ((hd :: R).filter (fun t => decide (i ≤ t)))) (by rw [flt_ge hTs i, if_pos hin]; rfl) ?_
        refine V_istore X (lv' := [(7, _), (10, _), (12, _), (0, _), (1, _), (2, _), (3, _), (4, _), (5, _), (6, _), (8, _), (9, _), (11, _)]) (by decide) rfl dL_isMatch_152 ?_
        refine V_iload X rfl dL_isMatch_154 ?_
        refine V_iload X rfl dL_isMatch_156 ?_
        refine V_if_eq X (tgt := 170) (by decide) dL_isMatch_158 (fun hc158 => absurd hc158 (by decide)) (fun hc158 => ?_)
        refine V_aload_n X rfl dL_isMatch_161 ?_
        refine V_iload X rfl dL_isMatch_162 ?_
        refine V_callSp X (rest := _) (c_L_players _ _ _ A lq la hA (i) (by have := hI.nt; have := hlt; omega) (P (i)) (S (i)) (Q (i)) (M (i)) (hI.ok hlt) (hI.q hlt)) gL_isMatch_L_players rfl hds_L_players (Nat.le_of_ble_eq_true rfl) (Nat.le_of_ble_eq_true rfl) rfl (Nat.le_of_ble_eq_true rfl) dL_isMatch_164 ?_
        refine V_goto X (tgt := 171) (by decide) dL_isMatch_167 ?_
        refine V_ior X dL_isMatch_171 ?_
        refine V.top (y := q_U (oi 5) ((hd :: R).filter (fun t => decide (i ≤ t)))) (by rw [flt_ge hTs i, if_pos hin, or32_c, ← SI.p5 hS hI hlt]; rfl) ?_
        refine V_istore X (lv' := [(8, _), (7, _), (10, _), (12, _), (0, _), (1, _), (2, _), (3, _), (4, _), (5, _), (6, _), (9, _), (11, _)]) (by decide) rfl dL_isMatch_172 ?_
        refine V_iload X rfl dL_isMatch_174 ?_
        refine V_iload X rfl dL_isMatch_176 ?_
        refine V_if_eq X (tgt := 185) (by decide) dL_isMatch_178 (fun hc178 => absurd hc178 (by decide)) (fun hc178 => ?_)
        refine V_iconst X (v := 1) (by decide) dL_isMatch_181 ?_
        refine V_goto X (tgt := 186) (by decide) dL_isMatch_182 ?_
        refine V_iadd X dL_isMatch_186 ?_
        refine V.top (y := nI ((hd :: R).filter (fun t => decide (i ≤ t))).length) (by rw [flt_ge hTs i, if_pos hin, nI_1]; rfl) ?_
        refine V_istore X (lv' := [(9, _), (8, _), (7, _), (10, _), (12, _), (0, _), (1, _), (2, _), (3, _), (4, _), (5, _), (6, _), (11, _)]) (by decide) rfl dL_isMatch_187 ?_
        refine V_iinc X (lv' := [(11, _), (9, _), (8, _), (7, _), (10, _), (12, _), (0, _), (1, _), (2, _), (3, _), (4, _), (5, _), (6, _)]) (v := nI i - 1) rfl (by rw [show Int32.ofInt (-1) = -1 from by decide, ← Int32.sub_eq_add_neg]) (by decide) rfl dL_isMatch_189 ?_
        refine V_goto X (tgt := 59) (by decide) dL_isMatch_192 ?_
        refine V.lvs (lv' := [(0, _), (1, _), (2, _), (3, _), (4, _), (5, _), (6, _), (7, _), (8, _), (9, _), (10, _), (11, _)]) rfl ?_
        exact ih (by omega)
      · refine V_aload_n X rfl dL_isMatch_64 ?_
        refine V_iload X rfl dL_isMatch_65 ?_
        refine V_callSp X (rest := _) (c_L_queues _ _ _ A lq la hA (i) (by have := hI.nt; have := hlt; omega) (P (i)) (S (i)) (Q (i)) (M (i)) (hI.ok hlt) (hI.q hlt)) gL_isMatch_L_queues rfl hds_L_queues (Nat.le_of_ble_eq_true rfl) (Nat.le_of_ble_eq_true rfl) rfl (Nat.le_of_ble_eq_true rfl) dL_isMatch_67 ?_
        refine V.top (y := 1) (by rw [decide_eq_true ((SI.q1 hS hI hlt).mpr h7)]; rfl) ?_
        refine V_if_eq X (tgt := 92) (by decide) dL_isMatch_70 (fun hc70 => absurd hc70 (by decide)) (fun hc70 => ?_)
        refine V_aload_n X rfl dL_isMatch_73 ?_
        refine V_iload X rfl dL_isMatch_74 ?_
        refine V_callSp X (rest := _) (c_L_players _ _ _ A lq la hA (i) (by have := hI.nt; have := hlt; omega) (P (i)) (S (i)) (Q (i)) (M (i)) (hI.ok hlt) (hI.q hlt)) gL_isMatch_L_players rfl hds_L_players (Nat.le_of_ble_eq_true rfl) (Nat.le_of_ble_eq_true rfl) rfl (Nat.le_of_ble_eq_true rfl) dL_isMatch_76 ?_
        refine V_iload X rfl dL_isMatch_79 ?_
        refine V_iload X rfl dL_isMatch_81 ?_
        refine V_ior X dL_isMatch_83 ?_
        refine V.top (y := q_U (oi 5) (hd :: R)) (by rw [← ha2, ← hb2]; exact PK.or hmem) ?_
        refine V_iand X dL_isMatch_84 ?_
        refine V_if_eq X (tgt := 92) (by decide) dL_isMatch_85 (fun hc85 => ?_) (fun hc85 => absurd hc85 (not_not_intro ((PK.in hS hI hT hlt h7).mpr hout)))
        refine V_iconst X (v := 0) (by decide) dL_isMatch_92 ?_
        refine V_istore X (lv' := [(12, _), (0, _), (1, _), (2, _), (3, _), (4, _), (5, _), (6, _), (7, _), (8, _), (9, _), (10, _), (11, _)]) (by decide) rfl dL_isMatch_93 ?_
        refine V_iload X rfl dL_isMatch_95 ?_
        refine V_if_eq X (tgt := 137) (by decide) dL_isMatch_97 (fun hc97 => absurd hc97 (by decide)) (fun hc97 => ?_)
        refine V_iload X rfl dL_isMatch_100 ?_
        refine V_if_eq X (tgt := 133) (by decide) dL_isMatch_102 (fun hc102 => ?_) (fun hc102 => absurd hc102 (by decide))
        refine V_iconst X (v := 1) (by decide) dL_isMatch_133 ?_
        refine V_goto X (tgt := 138) (by decide) dL_isMatch_134 ?_
        refine V_istore X (lv' := [(10, _), (12, _), (0, _), (1, _), (2, _), (3, _), (4, _), (5, _), (6, _), (7, _), (8, _), (9, _), (11, _)]) (by decide) rfl dL_isMatch_138 ?_
        refine V_iload X rfl dL_isMatch_140 ?_
        refine V_if_eq X (tgt := 150) (by decide) dL_isMatch_142 (fun hc142 => ?_) (fun hc142 => absurd hc142 (by decide))
        refine V_iload X rfl dL_isMatch_150 ?_
        refine V.top (y := firI ((hd :: R).filter (fun t => decide (i ≤ t)))) (by rw [flt_ge hTs i, if_neg hout]; rfl) ?_
        refine V_istore X (lv' := [(7, _), (10, _), (12, _), (0, _), (1, _), (2, _), (3, _), (4, _), (5, _), (6, _), (8, _), (9, _), (11, _)]) (by decide) rfl dL_isMatch_152 ?_
        refine V_iload X rfl dL_isMatch_154 ?_
        refine V_iload X rfl dL_isMatch_156 ?_
        refine V_if_eq X (tgt := 170) (by decide) dL_isMatch_158 (fun hc158 => ?_) (fun hc158 => absurd hc158 (by decide))
        refine V_iconst X (v := 0) (by decide) dL_isMatch_170 ?_
        refine V_ior X dL_isMatch_171 ?_
        refine V.top (y := q_U (oi 5) ((hd :: R).filter (fun t => decide (i ≤ t)))) (by rw [flt_ge hTs i, if_neg hout, or32_0]; rfl) ?_
        refine V_istore X (lv' := [(8, _), (7, _), (10, _), (12, _), (0, _), (1, _), (2, _), (3, _), (4, _), (5, _), (6, _), (9, _), (11, _)]) (by decide) rfl dL_isMatch_172 ?_
        refine V_iload X rfl dL_isMatch_174 ?_
        refine V_iload X rfl dL_isMatch_176 ?_
        refine V_if_eq X (tgt := 185) (by decide) dL_isMatch_178 (fun hc178 => ?_) (fun hc178 => absurd hc178 (by decide))
        refine V_iconst X (v := 0) (by decide) dL_isMatch_185 ?_
        refine V_iadd X dL_isMatch_186 ?_
        refine V.top (y := nI ((hd :: R).filter (fun t => decide (i ≤ t))).length) (by rw [flt_ge hTs i, if_neg hout, Int32.add_zero]; rfl) ?_
        refine V_istore X (lv' := [(9, _), (8, _), (7, _), (10, _), (12, _), (0, _), (1, _), (2, _), (3, _), (4, _), (5, _), (6, _), (11, _)]) (by decide) rfl dL_isMatch_187 ?_
        refine V_iinc X (lv' := [(11, _), (9, _), (8, _), (7, _), (10, _), (12, _), (0, _), (1, _), (2, _), (3, _), (4, _), (5, _), (6, _)]) (v := nI i - 1) rfl (by rw [show Int32.ofInt (-1) = -1 from by decide, ← Int32.sub_eq_add_neg]) (by decide) rfl dL_isMatch_189 ?_
        refine V_goto X (tgt := 59) (by decide) dL_isMatch_192 ?_
        refine V.lvs (lv' := [(0, _), (1, _), (2, _), (3, _), (4, _), (5, _), (6, _), (7, _), (8, _), (9, _), (10, _), (11, _)]) rfl ?_
        exact ih (by omega)
      · refine V_aload_n X rfl dL_isMatch_64 ?_
        refine V_iload X rfl dL_isMatch_65 ?_
        refine V_callSp X (rest := _) (c_L_queues _ _ _ A lq la hA (i) (by have := hI.nt; have := hlt; omega) (P (i)) (S (i)) (Q (i)) (M (i)) (hI.ok hlt) (hI.q hlt)) gL_isMatch_L_queues rfl hds_L_queues (Nat.le_of_ble_eq_true rfl) (Nat.le_of_ble_eq_true rfl) rfl (Nat.le_of_ble_eq_true rfl) dL_isMatch_67 ?_
        refine V.top (y := 0) (by rw [decide_eq_false (fun q => h7 ((SI.q1 hS hI hlt).mp q))]; rfl) ?_
        refine V_if_eq X (tgt := 92) (by decide) dL_isMatch_70 (fun hc70 => ?_) (fun hc70 => absurd hc70 (by decide))
        refine V_iconst X (v := 0) (by decide) dL_isMatch_92 ?_
        refine V_istore X (lv' := [(12, _), (0, _), (1, _), (2, _), (3, _), (4, _), (5, _), (6, _), (7, _), (8, _), (9, _), (10, _), (11, _)]) (by decide) rfl dL_isMatch_93 ?_
        refine V_iload X rfl dL_isMatch_95 ?_
        refine V_if_eq X (tgt := 137) (by decide) dL_isMatch_97 (fun hc97 => absurd hc97 (by decide)) (fun hc97 => ?_)
        refine V_iload X rfl dL_isMatch_100 ?_
        refine V_if_eq X (tgt := 133) (by decide) dL_isMatch_102 (fun hc102 => ?_) (fun hc102 => absurd hc102 (by decide))
        refine V_iconst X (v := 1) (by decide) dL_isMatch_133 ?_
        refine V_goto X (tgt := 138) (by decide) dL_isMatch_134 ?_
        refine V_istore X (lv' := [(10, _), (12, _), (0, _), (1, _), (2, _), (3, _), (4, _), (5, _), (6, _), (7, _), (8, _), (9, _), (11, _)]) (by decide) rfl dL_isMatch_138 ?_
        refine V_iload X rfl dL_isMatch_140 ?_
        refine V_if_eq X (tgt := 150) (by decide) dL_isMatch_142 (fun hc142 => ?_) (fun hc142 => absurd hc142 (by decide))
        refine V_iload X rfl dL_isMatch_150 ?_
        refine V.top (y := firI ((hd :: R).filter (fun t => decide (i ≤ t)))) (by rw [flt_ge hTs i, if_neg hout]; rfl) ?_
        refine V_istore X (lv' := [(7, _), (10, _), (12, _), (0, _), (1, _), (2, _), (3, _), (4, _), (5, _), (6, _), (8, _), (9, _), (11, _)]) (by decide) rfl dL_isMatch_152 ?_
        refine V_iload X rfl dL_isMatch_154 ?_
        refine V_iload X rfl dL_isMatch_156 ?_
        refine V_if_eq X (tgt := 170) (by decide) dL_isMatch_158 (fun hc158 => ?_) (fun hc158 => absurd hc158 (by decide))
        refine V_iconst X (v := 0) (by decide) dL_isMatch_170 ?_
        refine V_ior X dL_isMatch_171 ?_
        refine V.top (y := q_U (oi 5) ((hd :: R).filter (fun t => decide (i ≤ t)))) (by rw [flt_ge hTs i, if_neg hout, or32_0]; rfl) ?_
        refine V_istore X (lv' := [(8, _), (7, _), (10, _), (12, _), (0, _), (1, _), (2, _), (3, _), (4, _), (5, _), (6, _), (9, _), (11, _)]) (by decide) rfl dL_isMatch_172 ?_
        refine V_iload X rfl dL_isMatch_174 ?_
        refine V_iload X rfl dL_isMatch_176 ?_
        refine V_if_eq X (tgt := 185) (by decide) dL_isMatch_178 (fun hc178 => ?_) (fun hc178 => absurd hc178 (by decide))
        refine V_iconst X (v := 0) (by decide) dL_isMatch_185 ?_
        refine V_iadd X dL_isMatch_186 ?_
        refine V.top (y := nI ((hd :: R).filter (fun t => decide (i ≤ t))).length) (by rw [flt_ge hTs i, if_neg hout, Int32.add_zero]; rfl) ?_
        refine V_istore X (lv' := [(9, _), (8, _), (7, _), (10, _), (12, _), (0, _), (1, _), (2, _), (3, _), (4, _), (5, _), (6, _), (11, _)]) (by decide) rfl dL_isMatch_187 ?_
        refine V_iinc X (lv' := [(11, _), (9, _), (8, _), (7, _), (10, _), (12, _), (0, _), (1, _), (2, _), (3, _), (4, _), (5, _), (6, _)]) (v := nI i - 1) rfl (by rw [show Int32.ofInt (-1) = -1 from by decide, ← Int32.sub_eq_add_neg]) (by decide) rfl dL_isMatch_189 ?_
        refine V_goto X (tgt := 59) (by decide) dL_isMatch_192 ?_
        refine V.lvs (lv' := [(0, _), (1, _), (2, _), (3, _), (4, _), (5, _), (6, _), (7, _), (8, _), (9, _), (10, _), (11, _)]) rfl ?_
        exact ih (by omega)
  have hN : FrN f f := FrN.rf
  refine V_aload_n X rfl dL_isMatch_0 ?_
  refine V_iload X rfl dL_isMatch_1 ?_
  refine V_iconst X (v := 0) (by decide) dL_isMatch_3 ?_
  refine V_callVp X (rest := _) (c_X5_team_t _ _ _ al fi z hR mm hmm 0 (Or.inl rfl)) (hR.2.1 (15, 0) dm15) rfl gL_isMatch_X5_team rfl hdv_X5_team (Nat.le_of_ble_eq_true rfl) (Nat.le_of_ble_eq_true rfl) rfl (Nat.le_of_ble_eq_true rfl) dL_isMatch_4 ?_
  refine V.top (y := nI xa) ((if_pos rfl).trans (h9.trans ha2)) ?_
  refine V_istore X (lv' := [(5, _), (0, _), (1, _), (2, _), (3, _), (4, _)]) (by decide) rfl dL_isMatch_7 ?_
  refine V_aload_n X rfl dL_isMatch_9 ?_
  refine V_iload X rfl dL_isMatch_10 ?_
  refine V_iconst X (v := 1) (by decide) dL_isMatch_12 ?_
  refine V_callVp X (rest := _) (c_X5_team_t _ _ _ al fi z hR mm hmm 1 (Or.inr rfl)) (hR.2.1 (15, 0) dm15) rfl gL_isMatch_X5_team rfl hdv_X5_team (Nat.le_of_ble_eq_true rfl) (Nat.le_of_ble_eq_true rfl) rfl (Nat.le_of_ble_eq_true rfl) dL_isMatch_13 ?_
  refine V.top (y := nI xb) ((if_neg (by decide)).trans (h10.trans hb2)) ?_
  refine V_istore X (lv' := [(6, _), (5, _), (0, _), (1, _), (2, _), (3, _), (4, _)]) (by decide) rfl dL_isMatch_16 ?_
  refine V_iconst X (v := (-1)) (by decide) dL_isMatch_18 ?_
  refine V_istore X (lv' := [(7, _), (6, _), (5, _), (0, _), (1, _), (2, _), (3, _), (4, _)]) (by decide) rfl dL_isMatch_19 ?_
  refine V_iconst X (v := 0) (by decide) dL_isMatch_21 ?_
  refine V_istore X (lv' := [(8, _), (7, _), (6, _), (5, _), (0, _), (1, _), (2, _), (3, _), (4, _)]) (by decide) rfl dL_isMatch_22 ?_
  refine V_iconst X (v := 0) (by decide) dL_isMatch_24 ?_
  refine V_istore X (lv' := [(9, _), (8, _), (7, _), (6, _), (5, _), (0, _), (1, _), (2, _), (3, _), (4, _)]) (by decide) rfl dL_isMatch_25 ?_
  refine V_aload_n X rfl dL_isMatch_27 ?_
  refine V_iload X rfl dL_isMatch_28 ?_
  refine V_callS (kc' := 129) (ks' := 387) X (rest := _) (c_L_isTeam _ _ _ A lq la hA (zN oz 0) xa (ar 3) ha1 ha3 hS.np hro) gL_isMatch_L_isTeam rfl hds_L_isTeam (Nat.le_of_ble_eq_true rfl) (Nat.le_of_ble_eq_true rfl) rfl (Nat.le_of_ble_eq_true rfl) (by omega) (by omega) dL_isMatch_30 (fun r9 f9 h9 => ?_)
  obtain ⟨rfl, hN9⟩ := h9
  have hN := hN.trans hN9
  have hR := hR.keepA hN9.a
  have hA := hA.fr hN9.c
  refine V.top (y := 1) (by rw [ha4, hokA.1]; rfl) ?_
  refine V_if_eq X (tgt := 49) (by decide) dL_isMatch_33 (fun hc33 => absurd hc33 (by decide)) (fun hc33 => ?_)
  refine V_aload_n X rfl dL_isMatch_36 ?_
  refine V_iload X rfl dL_isMatch_37 ?_
  refine V_callS (kc' := 128) (ks' := 384) X (rest := _) (c_L_isTeam _ _ _ A lq la hA (zN oz 0) xb (ar 3) hb1 hb3 hS.np hro) gL_isMatch_L_isTeam rfl hds_L_isTeam (Nat.le_of_ble_eq_true rfl) (Nat.le_of_ble_eq_true rfl) rfl (Nat.le_of_ble_eq_true rfl) (by omega) (by omega) dL_isMatch_39 (fun r9 f9 h9 => ?_)
  obtain ⟨rfl, hN9⟩ := h9
  have hN := hN.trans hN9
  have hR := hR.keepA hN9.a
  have hA := hA.fr hN9.c
  refine V.top (y := 1) (by rw [hb4, hokA.2]; rfl) ?_
  refine V_if_eq X (tgt := 49) (by decide) dL_isMatch_42 (fun hc42 => absurd hc42 (by decide)) (fun hc42 => ?_)
  refine V_iconst X (v := 1) (by decide) dL_isMatch_45 ?_
  refine V_goto X (tgt := 50) (by decide) dL_isMatch_46 ?_
  refine V_istore X (lv' := [(10, _), (9, _), (8, _), (7, _), (6, _), (5, _), (0, _), (1, _), (2, _), (3, _), (4, _)]) (by decide) rfl dL_isMatch_50 ?_
  refine V_aload_n X rfl dL_isMatch_52 ?_
  refine V_iconst X (v := 2) (by decide) dL_isMatch_53 ?_
  refine V_ald X hA 6 (2) 4 (by decide) rfl (by omega) (hI.c2) dL_isMatch_54 ?_
  refine V_iconst X (v := 1) (by decide) dL_isMatch_55 ?_
  refine V_isub X dL_isMatch_56 ?_
  refine V_istore X (lv' := [(11, _), (10, _), (9, _), (8, _), (7, _), (6, _), (5, _), (0, _), (1, _), (2, _), (3, _), (4, _)]) (by decide) rfl dL_isMatch_57 ?_
  refine V.lvs (lv' := [(0, _), (1, _), (2, _), (3, _), (4, _), (5, _), (6, _), (7, _), (8, _), (9, _), (10, _), (11, _)]) rfl ?_
  have e0 := flt_n (T := (hd :: R)) (n := zN oz 1) (fun t ht => (hT t ht).1)
  have h9 := LA9 _ hN (zN oz 1) (Nat.le_refl _)
  rw [e0.2] at h9
  exact h9
