/-! ===== the law: wins ===== -/
theorem fin_1 (np nt m : Nat) (w : Int32) (ar : Nat → Nat → Int32) : finA np nt m w ar 1 = ifF np (fun k => hsI (allI (ar 11) m) (nI k)) (nrI ar (ar 11 (2 * m)) w (exI (e0I np m ar))) (ar 1) := rfl
theorem fin_2 (np nt m : Nat) (w : Int32) (ar : Nat → Nat → Int32) : finA np nt m w ar 2 = ifF np (fun k => hsI (allI (ar 11) m) (nI k)) (fun k => nuI (ar 2 k)) (ar 2) := rfl
theorem fin_4 (np nt m : Nat) (w : Int32) (ar : Nat → Nat → Int32) : finA np nt m w ar 4 = ifF np (fun k => hsI (allI (ar 11) m) (nI k)) (fun k => nlI (ar 4 k)) (ar 4) := rfl
def sr3 (fi : Nat → Nat → Int32) (j : Nat) : Nat → Int32 := if j = 0 then fi 1 else if j = 1 then fi 2 else fi 3
theorem sr3_step (fi : Nat → Nat → Int32) (i : Nat) : ∀ j, j < 3 → mixF (i + 1) (sr3 fi j) (fun _ => 0) = fu (fu (fu (fun j => mixF i (sr3 fi j) (fun _ => 0)) 0 i (fi 1 i)) 1 i (fi 2 i)) 2 i (fi 3 i) j := fun j hj => by
  rcases (show j = 0 ∨ j = 1 ∨ j = 2 by omega) with h | h | h
  · subst h
    rw [fu_o (by decide), fu_o (by decide), show fu (fun j => mixF i (sr3 fi j) (fun _ => 0)) 0 i (fi 1 i) 0 = va_up (mixF i (sr3 fi 0) (fun _ => 0)) i (fi 1 i) from va_up_self _ _ _]
    exact (mixF_up (E := sr3 fi 0) rfl).symm
  · subst h
    rw [fu_o (by decide), show ∀ g : Nat → Nat → Int32, fu g 1 i (fi 2 i) 1 = va_up (g 1) i (fi 2 i) from fun g => va_up_self _ _ _, fu_o (by decide)]
    exact (mixF_up (E := sr3 fi 1) rfl).symm
  · subst h
    rw [show ∀ g : Nat → Nat → Int32, fu g 2 i (fi 3 i) 2 = va_up (g 2) i (fi 3 i) from fun g => va_up_self _ _ _, fu_o (by decide), fu_o (by decide)]
    exact (mixF_up (E := sr3 fi 2) rfl).symm
theorem mixF_e {n i : Nat} {E g : Nat → Int32} {x : Int32} (h : i < n) (e : E i = x) : mixF n E g i = x := by
  unfold mixF
  rw [if_pos h]
  exact e
theorem and_m1 (x : Int32) : x &&& ((0 : Int32) ^^^ (-1)) = x := gb_ext fun k hk => by
  rw [gb_and, gb_not _ hk, gb_0]
  cases gb x k <;> rfl
set_option maxHeartbeats 4000000 in
set_option maxRecDepth 100000 in
theorem c_L_wins_y0 (l : Launch) (hl : l.stackTraces = false) (G : GG) (f : Wo) (al : Tg → Nat) (fi : Nat → Nat → Int32) (z : CZ) (hR : RC G al fi z f) (A : Nat → Nat) (lq : Nat → Int64) (la : Nat → Nat → Int32) (hA : LA G A lq la f) (c : Nat) (sc : Nat → Int32) (ar : Nat → Nat → Int32) (hS : SM c fi z sc ar) (hB : BR ar) (P S Q M : Nat → Nat) (hI : IV c (zN z 0) (zN z 1) (zN z 2) ar lq la P S Q M) (m : Nat) (hm : m < zN z 2) (hst : fi 13 m = 1) : Ct l yL_wins wsL_wins 15 296 G [.ref (al (15, 0)), .int (nI m), .int 0, .ref (A 0), .ref (A 1), .ref (A 6)] f (fun r f' => r = some (.int 1) ∧ LW G A (al (15, 0)) f' c (zN z 0) (zN z 1) (zN z 2)) 4 60 := by
  refine Ct.of (cc := cL_wins) (maxL := 21) (ret := (some .boolean)) (by decide) rfl (Nat.le_of_ble_eq_true rfl) (lv := [(0, _), (1, _), (2, _), (3, _), (4, _), (5, _)]) rfl (by simp [Value.category]) ?_
  intro K X hL hG hr hnm
  subst hL; subst hG
  have h18 := hI.np
  have h60 := hI.nt
  have h30 := hI.nm
  have h2k := hI.cc
  obtain ⟨⟨U, T, hU, hT4, u1, u2, u3⟩, u4, u5, b0, b1, -⟩ := hI.ma hm
  obtain ⟨g9, g10, -, m13, -⟩ := hS.mt hm
  have hs0 : ∀ k, k < 18 → hsI (fi 9 m) (nI k) = true → k < zN z 0 := fun k hk h => Nat.lt_of_not_le fun q => by rw [g9, q_bw_h b0 q (by omega)] at h; cases h
  have hs1 : ∀ k, k < 18 → hsI (fi 10 m) (nI k) = true → k < zN z 0 := fun k hk h => Nat.lt_of_not_le fun q => by rw [g10, q_bw_h b1 q (by omega)] at h; cases h
  have hsm0 : smI 18 (fi 9 m) (fi 1) = smI (zN z 0) (ar 11 (2 * m)) (ar 1) := by rw [g9]; exact sm_np b0 h18 (fun k hk => (hS.pl hk).1)
  have hsm1 : smI 18 (fi 10 m) (fi 1) = smI (zN z 0) (ar 11 (2 * m + 1)) (ar 1) := by rw [g10]; exact sm_np b1 h18 (fun k hk => (hS.pl hk).1)
  have hfin := hS.fin (m := m) (w := 0) (sc' := sc) hm hst (by decide) (fun _ _ => rfl)
  have hBf : BR (finA (zN z 0) (zN z 1) m 0 ar) := hB.of (fun k => by
      rw [fin_4]
      unfold ifF
      split
      · exact Or.inr (Or.inr rfl)
      · exact Or.inl rfl) (fun k => Or.inl rfl)
  have hq0 : ∀ t, t < zN z 1 → M t = m + 1 → Q t = 0 := fun t ht h => by
    have h10 : ar 10 t = nI m := by rw [(hI.pa ht).2.2.2.2, h]; exact nI_pred m
    have h7 : fi 7 t = 2 := by
      by_cases q : fi 7 t = 2
      · exact q
      · rw [hS.2.2.2.2.1.2.1 t ht q] at h10
        have := congrArg Int32.toInt h10
        rw [nI_toInt (by omega), show (-1 : Int32).toInt = -1 from by decide] at this
        omega
    have h1 : ¬ Q t = 1 := fun q => by rw [(SI.q1 hS hI ht).mp q] at h7; exact absurd h7 (by decide)
    have := (hI.ok ht).2.2.1
    omega
  have hpl9 : ∀ k, k < zN z 0 → (∃ R, R ≤ 4000 ∧ finA (zN z 0) (zN z 1) m 0 ar 1 k = nI R) ∧ ∃ D, 50 ≤ D ∧ D ≤ 350 ∧ finA (zN z 0) (zN z 1) m 0 ar 2 k = nI D := fun k hk => by
    obtain ⟨-, -, h3, D, d1, d2, d3⟩ := hI.pl hk
    constructor
    · rw [fin_1]
      unfold ifF
      split
      · exact clI_bd _
      · exact h3
    · rw [fin_2]
      unfold ifF
      split
      · show ∃ E, 50 ≤ E ∧ E ≤ 350 ∧ nuI (ar 2 k) = nI E
        rw [d3]; exact nuI_bd d1 d2
      · exact ⟨D, d1, d2, d3⟩
  refine V_bipush X (v := 18) (by decide) dL_wins_0 ?_
  refine V_newT X (kc' := 3) (ks' := 42) (N := 18) (42, 0) (by decide +kernel) (by decide) (by decide) (by decide) (by omega) (by omega) dL_wins_2 (fun q0 f2 hN0 hT0 => ?_)
  refine V_astore X (lv' := [(6, _), (0, _), (1, _), (2, _), (3, _), (4, _), (5, _)]) (by decide) rfl dL_wins_4 ?_
  refine V_bipush X (v := 18) (by decide) dL_wins_6 ?_
  refine V_newT X (kc' := 2) (ks' := 24) (N := 18) (42, 1) (by decide +kernel) (by decide) (by decide) (by decide) (by omega) (by omega) dL_wins_8 (fun q1 f3 hN1 hT1 => ?_)
  refine V_astore X (lv' := [(7, _), (6, _), (0, _), (1, _), (2, _), (3, _), (4, _), (5, _)]) (by decide) rfl dL_wins_10 ?_
  refine V_bipush X (v := 18) (by decide) dL_wins_12 ?_
  refine V_newT X (kc' := 1) (ks' := 6) (N := 18) (42, 2) (by decide +kernel) (by decide) (by decide) (by decide) (by omega) (by omega) dL_wins_14 (fun q2 f0 hN2 hT2 => ?_)
  have hNN : FrN f f0 := (hN0.trans hN1).trans hN2
  have hR := hR.keepA hNN.a
  have hA := hA.fr hNN.c
  obtain ⟨B, hB0, hB1, hB2⟩ : ∃ B : Nat → Nat, B 0 = q0 ∧ B 1 = q1 ∧ B 2 = q2 := ⟨fun j => if j = 0 then q0 else if j = 1 then q1 else q2, rfl, rfl, rfl⟩
  have hTT : TA (kG K) 3 B (fun j => mixF 0 (sr3 fi j) (fun _ => 0)) f0 := fun j hj => by
      show f0 (B j) = some ((42, j), oI (kG K) 18 (mixF 0 (sr3 fi j) (fun _ => 0)))
      rw [mixF_0]
      rcases (show j = 0 ∨ j = 1 ∨ j = 2 by omega) with h | h | h
      · subst h; rw [hB0]; exact hN2 _ _ (hN1 _ _ hT0)
      · subst h; rw [hB1]; exact hN2 _ _ hT1
      · subst h; rw [hB2]; exact hT2
  clear hNN hN0 hN1 hN2 hT0 hT1 hT2
  rw [← hB0, ← hB1, ← hB2]
  have T4 : ∀ f1 : Wo, TA (kG K) 3 B (fun j => mixF (zN z 0) (sr3 fi j) (fun _ => 0)) f1 → FrT f0 f1 → V K f1 1 6 154 [(0, .ref (al (15, 0))), (1, .int (nI m)), (2, .int 0), (3, .ref (A 0)), (4, .ref (A 1)), (5, .ref (A 6)), (6, .ref (B 0)), (7, .ref (B 1)), (8, .ref (B 2)), (9, .int 1), (10, .int (fi 9 m)), (11, .int (exI (e0I (zN z 0) m ar)))] [] := by
    intro f1 hT hF
    have hR := hR.keepT hF
    have hA := hA.ft hF
    refine V_aload_n X rfl dL_wins_154 ?_
    refine V_iconst X (v := 4) (by decide) dL_wins_155 ?_
    refine V_iload_n X rfl dL_wins_156 ?_
    refine V_iload_n X rfl dL_wins_157 ?_
    refine V_callSH (kc' := 0) (ks' := 0) X (rest := _) (c_L_asks_f _ _ _ al fi z hR m hm 0 (by decide) hst) gL_wins_L_asks rfl hds_L_asks (Nat.le_of_ble_eq_true rfl) (Nat.le_of_ble_eq_true rfl) rfl (Nat.le_of_ble_eq_true rfl) (by omega) (by omega) dL_wins_158 (fun r9 f9 h9 => ?_)
    obtain ⟨rfl, hR, hF9⟩ := h9
    have hA := hA.fr hF9
    have hT := hT.fc hF9
    have L3 : ∀ (n i : Nat), zN z 1 - i = n → i ≤ zN z 1 → ∀ f2 : Wo, LA (kG K) A (mixF i (fiQ m P S M lq) lq) (fu la 1 m ((la 1 m &&& 262143) ||| 786432)) f2 → FrA f9 f2 → V K f2 0 0 489 [(0, .ref (al (15, 0))), (1, .int (nI m)), (2, .int 0), (3, .ref (A 0)), (4, .ref (A 1)), (5, .ref (A 6)), (6, .ref (B 0)), (7, .ref (B 1)), (8, .ref (B 2)), (9, .int 1), (10, .int (fi 9 m)), (11, .int (exI (e0I (zN z 0) m ar))), (12, .int 0), (13, .int 1), (14, .int (nI i))] [] := by
      intro n
      induction n using Nat.strongRecOn with
      | ind n ih =>
        intro i hn hi f2 hA hF
        refine V_iload X rfl dL_wins_489 ?_
        refine V_aload X rfl dL_wins_491 ?_
        refine V_iconst X (v := 2) (by decide) dL_wins_493 ?_
        refine V_ald X hA 6 (2) 4 (by decide) rfl (by omega) ((fu_ne _ _ (Or.inl (by decide))).trans hI.c2) dL_wins_494 ?_
        refine V_icmp_ge X (tgt := 538) (by decide) dL_wins_495 (fun hc495 => ?_) (fun hc495 => ?_)
        · have hiN := lim_ge (N := zN z 1) rfl hc495 hi (by omega)
          rw [hiN] at hA
          refine V_iload X rfl dL_wins_538 ?_
          exact V_zret X hr (by decide) (⟨rfl, al, _, z, sc, (finA (zN z 0) (zN z 1) m 0 ar), _, _, P, S, Q, _, rfl, hR.keepA hF, hA, hfin, hBf, rfl, rfl, rfl, hI.fin hm hq0 rfl rfl hpl9 (fun j j1 j2 j4 j5 j10 j15 => by unfold finA; rw [if_neg j1, if_neg j2, if_neg j4, if_neg j10, if_neg j5, if_neg j15])⟩) dL_wins_540
        · have hlt := lim_lt (N := zN z 1) rfl hc495 hi (by omega)
          obtain ⟨hok, hqi⟩ := hI.2.1 i hlt
          have hqi2 : mixF i (fiQ m P S M lq) lq i = lN (eN (P i) (S i) (Q i) (M i)) := (mixF_i _ _ _).trans hqi
          refine V_aload_n X rfl dL_wins_498 ?_
          refine V_iload X rfl dL_wins_499 ?_
          refine V_aload_n X rfl dL_wins_501 ?_
          refine V_iload X rfl dL_wins_502 ?_
          refine V_qld X hA (i) (by omega) (hqi2) dL_wins_504 ?_
          refine V_bipush X (v := 41) (by decide) dL_wins_505 ?_
          refine V_lshr X dL_wins_507 ?_
          refine V.topl (y := lN (M i)) (j_ma hok) ?_
          refine V_iload_n X rfl dL_wins_508 ?_
          refine V_i2l X dL_wins_509 ?_
          refine V.topl (y := lN m) (nI_l (by omega)) ?_
          refine V_lconst X (v := 1) (by decide) dL_wins_510 ?_
          refine V_ladd X dL_wins_511 ?_
          refine V.topl (y := lN (m + 1)) (lN_1 m) ?_
          refine V_lcmp X dL_wins_512 ?_
          refine V_if_ne X (tgt := 527) (by decide) dL_wins_513 (fun hc513 => ?_) (fun hc513 => ?_)
          · refine V_aload_n X rfl dL_wins_527 ?_
            refine V_iload X rfl dL_wins_528 ?_
            refine V_qld X hA (i) (by omega) (hqi2) dL_wins_530 ?_
            refine V_qst X hA (i) (by omega) dL_wins_531 (fun f hA hFA => ?_)
            refine V_iinc X (lv' := [(14, _), (0, _), (1, _), (2, _), (3, _), (4, _), (5, _), (6, _), (7, _), (8, _), (9, _), (10, _), (11, _), (12, _), (13, _)]) (v := nI (i + 1)) rfl (nI_1 _) (by decide) rfl dL_wins_532 ?_
            refine V_goto X (tgt := 489) (by decide) dL_wins_535 ?_
            refine V.lvs (lv' := [(0, _), (1, _), (2, _), (3, _), (4, _), (5, _), (6, _), (7, _), (8, _), (9, _), (10, _), (11, _), (12, _), (13, _), (14, _)]) rfl ?_
            have hM9 : ¬ M i = m + 1 := fun q => hc513 ((lg_cmp_eq _ _).mpr (by rw [q]))
            rw [mixF_up (show _ = fiQ m P S M lq i from by rw [← hqi]; exact (if_neg hM9).symm)] at hA
            exact ih (zN z 1 - (i + 1)) (by omega) (i + 1) rfl (by omega) f hA (hF.trans hFA)
          · refine V_aload_n X rfl dL_wins_516 ?_
            refine V_iload X rfl dL_wins_517 ?_
            refine V_qld X hA (i) (by omega) (hqi2) dL_wins_519 ?_
            refine V_ldc2 X (v := 1099511627775) (by decide +kernel) dL_wins_520 ?_
            refine V_land X dL_wins_523 ?_
            refine V.topl (y := lN (eN (P i) (S i) 0 0)) (j_lo hok) ?_
            refine V_goto X (tgt := 531) (by decide) dL_wins_524 ?_
            refine V_qst X hA (i) (by omega) dL_wins_531 (fun f hA hFA => ?_)
            refine V_iinc X (lv' := [(14, _), (0, _), (1, _), (2, _), (3, _), (4, _), (5, _), (6, _), (7, _), (8, _), (9, _), (10, _), (11, _), (12, _), (13, _)]) (v := nI (i + 1)) rfl (nI_1 _) (by decide) rfl dL_wins_532 ?_
            refine V_goto X (tgt := 489) (by decide) dL_wins_535 ?_
            refine V.lvs (lv' := [(0, _), (1, _), (2, _), (3, _), (4, _), (5, _), (6, _), (7, _), (8, _), (9, _), (10, _), (11, _), (12, _), (13, _), (14, _)]) rfl ?_
            have hM9 : M i = m + 1 := (pk_lEQ (by have := hok.2.2.2; omega) (by omega)).mp ((lg_cmp_eq _ _).mp hc513)
            rw [mixF_up (show _ = fiQ m P S M lq i from (if_pos hM9).symm)] at hA
            exact ih (zN z 1 - (i + 1)) (by omega) (i + 1) rfl (by omega) f hA (hF.trans hFA)
    have T5 : V K f9 0 0 467 [(0, .ref (al (15, 0))), (1, .int (nI m)), (2, .int 0), (3, .ref (A 0)), (4, .ref (A 1)), (5, .ref (A 6)), (6, .ref (B 0)), (7, .ref (B 1)), (8, .ref (B 2)), (9, .int 1), (10, .int (fi 9 m)), (11, .int (exI (e0I (zN z 0) m ar))), (12, .int 0), (13, .int 1)] [] := by
      refine V_iload X rfl dL_wins_467 ?_
      refine V_if_eq X (tgt := 538) (by decide) dL_wins_469 (fun hc469 => absurd hc469 (by decide)) (fun hc469 => ?_)
      refine V_aload X rfl dL_wins_472 ?_
      refine V_iload_n X rfl dL_wins_474 ?_
      refine V_aload X rfl dL_wins_475 ?_
      refine V_iload_n X rfl dL_wins_477 ?_
      refine V_ald X hA 1 (m) 31 (by decide) rfl (by omega) (rfl) dL_wins_478 ?_
      refine V_ldc X (v := 262143) (by decide +kernel) dL_wins_479 ?_
      refine V_iand X dL_wins_481 ?_
      refine V_ldc X (v := 786432) (by decide +kernel) dL_wins_482 ?_
      refine V_ior X dL_wins_484 ?_
      refine V_ast X hA 1 (m) 31 (by decide) rfl (by omega) dL_wins_485 (fun f hA hFA => ?_)
      refine V_iconst X (v := 0) (by decide) dL_wins_486 ?_
      refine V_istore X (lv' := [(14, _), (0, _), (1, _), (2, _), (3, _), (4, _), (5, _), (6, _), (7, _), (8, _), (9, _), (10, _), (11, _), (12, _), (13, _)]) (by decide) rfl dL_wins_487 ?_
      refine V.lvs (lv' := [(0, _), (1, _), (2, _), (3, _), (4, _), (5, _), (6, _), (7, _), (8, _), (9, _), (10, _), (11, _), (12, _), (13, _), (14, _)]) rfl ?_
      exact L3 _ 0 rfl (Nat.zero_le _) _ (by rw [mixF_0]; exact hA) hFA
    have L2 : ∀ (n i : Nat), zN z 0 - i = n → i ≤ zN z 0 → V K f9 0 0 189 [(0, .ref (al (15, 0))), (1, .int (nI m)), (2, .int 0), (3, .ref (A 0)), (4, .ref (A 1)), (5, .ref (A 6)), (6, .ref (B 0)), (7, .ref (B 1)), (8, .ref (B 2)), (9, .int 1), (10, .int (fi 9 m)), (11, .int (exI (e0I (zN z 0) m ar))), (12, .int 0), (13, .int 1), (14, .int (nI i))] [] := by
      intro n
      induction n using Nat.strongRecOn with
      | ind n ih =>
        intro i hn hi
        refine V_iload X rfl dL_wins_189 ?_
        refine V_aload X rfl dL_wins_191 ?_
        refine V_iconst X (v := 1) (by decide) dL_wins_193 ?_
        refine V_ald X hA 6 (1) 4 (by decide) rfl (by omega) (hI.c1) dL_wins_194 ?_
        refine V_icmp_ge X (tgt := 467) (by decide) dL_wins_195 (fun hc195 => ?_) (fun hc195 => ?_)
        · refine V.lvs (lv' := [(0, _), (1, _), (2, _), (3, _), (4, _), (5, _), (6, _), (7, _), (8, _), (9, _), (10, _), (11, _), (12, _), (13, _)]) rfl ?_
          exact T5
        · have hlt := lim_lt (N := zN z 0) rfl hc195 hi (by omega)
          obtain ⟨e1, e2, e3, e4, e6, e5, ⟨v, hv5, hv⟩, -⟩ := hS.pl hlt
          obtain ⟨-, -, ⟨R, hR1, hR2⟩, D, hD1, hD2, hD3⟩ := hI.pl hlt
          have hbd : -400000 ≤ (ar 2 i * (shI (ar 11 (2 * m)) 0 (exI (e0I (zN z 0) m ar)) i)).toInt ∧ (ar 2 i * (shI (ar 11 (2 * m)) 0 (exI (e0I (zN z 0) m ar)) i)).toInt ≤ 400000 := by rw [hD3]; exact sh_bd hD2 (shI_bd _ _ _ _).1 (shI_bd _ _ _ _).2
          have hsz : hsI (ar 11 (2 * m)) (nI i) = true → (shI (ar 11 (2 * m)) 0 (exI (e0I (zN z 0) m ar)) i) = 1000 - (exI (e0I (zN z 0) m ar)) := fun q => by unfold shI tmI; rw [q]; rfl
          have hsn : hsI (ar 11 (2 * m)) (nI i) = false → (shI (ar 11 (2 * m)) 0 (exI (e0I (zN z 0) m ar)) i) = 0 - (1000 - (exI (e0I (zN z 0) m ar))) := fun q => by unfold shI tmI; rw [q]; rfl
          have hu1 : hsI (la 1 m) (nI i) = hsI (allI (ar 11) m) (nI i) := by have h9 := hsI_aw u3 u1 hU hT4 0 (k := i) (by omega); rwa [and_m1, and_m1] at h9
          have hcs : (hsI (allI (ar 11) m) (nI i) = true ∧ hsI (ar 11 (2 * m)) (nI i) = true) ∨ (hsI (allI (ar 11) m) (nI i) = true ∧ hsI (ar 11 (2 * m)) (nI i) = false) ∨ (hsI (allI (ar 11) m) (nI i) = false ∧ hsI (ar 11 (2 * m)) (nI i) = true) ∨ (hsI (allI (ar 11) m) (nI i) = false ∧ hsI (ar 11 (2 * m)) (nI i) = false) := by cases hsI (allI (ar 11) m) (nI i) <;> cases hsI (ar 11 (2 * m)) (nI i) <;> simp
          have hg := hfin.pl hlt
          have hg1i : hsI (allI (ar 11) m) (nI i) = true → (fnF fi z m 0) 1 i = clI (ar 1 i + downI (ar 2 i * (shI (ar 11 (2 * m)) 0 (exI (e0I (zN z 0) m ar)) i)) 8000) := fun q => hg.1.trans (by rw [fin_1]; unfold ifF; rw [if_pos ⟨hlt, q⟩]; rfl)
          have hg1n : hsI (allI (ar 11) m) (nI i) = false → (fnF fi z m 0) 1 i = ar 1 i := fun q => hg.1.trans (by rw [fin_1]; unfold ifF; rw [if_neg (fun r => absurd (show hsI (allI (ar 11) m) (nI i) = true from r.2) (by rw [q]; decide))])
          have hg2i : hsI (allI (ar 11) m) (nI i) = true → (fnF fi z m 0) 2 i = nuI (ar 2 i) := fun q => hg.2.1.trans (by rw [fin_2]; unfold ifF; rw [if_pos ⟨hlt, q⟩])
          have hg2n : hsI (allI (ar 11) m) (nI i) = false → (fnF fi z m 0) 2 i = ar 2 i := fun q => hg.2.1.trans (by rw [fin_2]; unfold ifF; rw [if_neg (fun r => absurd (show hsI (allI (ar 11) m) (nI i) = true from r.2) (by rw [q]; decide))])
          have hg3i : hsI (allI (ar 11) m) (nI i) = true → (fnF fi z m 0) 3 i = nlI (ar 4 i) := fun q => hg.2.2.2.1.trans (by rw [fin_4]; unfold ifF; rw [if_pos ⟨hlt, q⟩])
          have hg3n : hsI (allI (ar 11) m) (nI i) = false → (fnF fi z m 0) 3 i = ar 4 i := fun q => hg.2.2.2.1.trans (by rw [fin_4]; unfold ifF; rw [if_neg (fun r => absurd (show hsI (allI (ar 11) m) (nI i) = true from r.2) (by rw [q]; decide))])
          rcases hcs with ⟨hin, hzz⟩ | ⟨hin, hzz⟩ | ⟨hin, hzz⟩ | ⟨hin, hzz⟩
          · refine V_iload X rfl dL_wins_198 ?_
            refine V_if_eq X (tgt := 467) (by decide) dL_wins_200 (fun hc200 => absurd hc200 (by decide)) (fun hc200 => ?_)
            refine V_iload X rfl dL_wins_203 ?_
            refine V_if_eq X (tgt := 224) (by decide) dL_wins_205 (fun hc205 => absurd hc205 (by decide)) (fun hc205 => ?_)
            refine V_aload X rfl dL_wins_208 ?_
            refine V_iload_n X rfl dL_wins_210 ?_
            refine V_ald X hA 1 (m) 31 (by decide) rfl (by omega) (rfl) dL_wins_211 ?_
            refine V_iload X rfl dL_wins_212 ?_
            refine V_callSp X (rest := _) (c_L_has _ _ _ _ _) gL_wins_L_has rfl hds_L_has (Nat.le_of_ble_eq_true rfl) (Nat.le_of_ble_eq_true rfl) rfl (Nat.le_of_ble_eq_true rfl) dL_wins_214 ?_
            refine V.top (y := 1) (by rw [hu1, hin]; rfl) ?_
            refine V_if_eq X (tgt := 224) (by decide) dL_wins_217 (fun hc217 => absurd hc217 (by decide)) (fun hc217 => ?_)
            refine V_iconst X (v := 1) (by decide) dL_wins_220 ?_
            refine V_goto X (tgt := 225) (by decide) dL_wins_221 ?_
            refine V_istore X (lv' := [(15, _), (0, _), (1, _), (2, _), (3, _), (4, _), (5, _), (6, _), (7, _), (8, _), (9, _), (10, _), (11, _), (12, _), (13, _), (14, _)]) (by decide) rfl dL_wins_225 ?_
            refine V_iload X rfl dL_wins_227 ?_
            refine V_iload X rfl dL_wins_229 ?_
            refine V_callSp X (rest := _) (c_L_has _ _ _ _ _) gL_wins_L_has rfl hds_L_has (Nat.le_of_ble_eq_true rfl) (Nat.le_of_ble_eq_true rfl) rfl (Nat.le_of_ble_eq_true rfl) dL_wins_231 ?_
            refine V.top (y := 1) (by rw [g9, hzz]; rfl) ?_
            refine V_iload_n X rfl dL_wins_234 ?_
            refine V_if_ne X (tgt := 242) (by decide) dL_wins_235 (fun hc235 => absurd hc235 (by decide)) (fun hc235 => ?_)
            refine V_iconst X (v := 1) (by decide) dL_wins_238 ?_
            refine V_goto X (tgt := 243) (by decide) dL_wins_239 ?_
            refine V_icmp_ne X (tgt := 252) (by decide) dL_wins_243 (fun hc243 => absurd hc243 (by decide)) (fun hc243 => ?_)
            refine V_sipush X (v := 1000) (by decide) dL_wins_246 ?_
            refine V_goto X (tgt := 253) (by decide) dL_wins_249 ?_
            refine V_istore X (lv' := [(16, _), (15, _), (0, _), (1, _), (2, _), (3, _), (4, _), (5, _), (6, _), (7, _), (8, _), (9, _), (10, _), (11, _), (12, _), (13, _), (14, _)]) (by decide) rfl dL_wins_253 ?_
            refine V_aload X rfl dL_wins_255 ?_
            refine V_iload X rfl dL_wins_257 ?_
            refine V_taL X hT 1 (i) (by decide) (by omega) (mixF_e hlt e2) dL_wins_259 ?_
            refine V_iload X rfl dL_wins_260 ?_
            refine V_iload X rfl dL_wins_262 ?_
            refine V_iload X rfl dL_wins_264 ?_
            refine V_callSp X (rest := _) (c_L_has _ _ _ _ _) gL_wins_L_has rfl hds_L_has (Nat.le_of_ble_eq_true rfl) (Nat.le_of_ble_eq_true rfl) rfl (Nat.le_of_ble_eq_true rfl) dL_wins_266 ?_
            refine V.top (y := 1) (by rw [g9, hzz]; rfl) ?_
            refine V_if_eq X (tgt := 277) (by decide) dL_wins_269 (fun hc269 => absurd hc269 (by decide)) (fun hc269 => ?_)
            refine V_iload X rfl dL_wins_272 ?_
            refine V_goto X (tgt := 283) (by decide) dL_wins_274 ?_
            refine V_isub X dL_wins_283 ?_
            refine V_imul X dL_wins_284 ?_
            refine V.top (y := ar 2 i * (shI (ar 11 (2 * m)) 0 (exI (e0I (zN z 0) m ar)) i)) ((congrArg (ar 2 i * ·) (hsz hzz)).symm) ?_
            refine V_istore X (lv' := [(17, _), (16, _), (15, _), (0, _), (1, _), (2, _), (3, _), (4, _), (5, _), (6, _), (7, _), (8, _), (9, _), (10, _), (11, _), (12, _), (13, _), (14, _)]) (by decide) rfl dL_wins_285 ?_
            refine V_iload X rfl dL_wins_287 ?_
            refine V_ldc X (v := 8000000) (by decide +kernel) dL_wins_289 ?_
            refine V_iadd X dL_wins_291 ?_
            refine V_sipush X (v := 8000) (by decide) dL_wins_292 ?_
            refine V_idiv X (by decide) dL_wins_295 ?_
            refine V_sipush X (v := 1000) (by decide) dL_wins_296 ?_
            refine V_isub X dL_wins_299 ?_
            refine V.top (y := downI (ar 2 i * (shI (ar 11 (2 * m)) 0 (exI (e0I (zN z 0) m ar)) i)) 8000) ((downI_8000 hbd.1 hbd.2).symm) ?_
            refine V_istore X (lv' := [(18, _), (17, _), (16, _), (15, _), (0, _), (1, _), (2, _), (3, _), (4, _), (5, _), (6, _), (7, _), (8, _), (9, _), (10, _), (11, _), (12, _), (13, _), (14, _)]) (by decide) rfl dL_wins_300 ?_
            refine V_aload X rfl dL_wins_302 ?_
            refine V_iload X rfl dL_wins_304 ?_
            refine V_taL X hT 0 (i) (by decide) (by omega) (mixF_e hlt e1) dL_wins_306 ?_
            refine V_iload X rfl dL_wins_307 ?_
            refine V_if_eq X (tgt := 317) (by decide) dL_wins_309 (fun hc309 => absurd hc309 (by decide)) (fun hc309 => ?_)
            refine V_iload X rfl dL_wins_312 ?_
            refine V_goto X (tgt := 318) (by decide) dL_wins_314 ?_
            refine V_iadd X dL_wins_318 ?_
            refine V.top (y := (ar 1 i + downI (ar 2 i * (shI (ar 11 (2 * m)) 0 (exI (e0I (zN z 0) m ar)) i)) 8000)) (rfl) ?_
            refine V_istore X (lv' := [(19, _), (18, _), (17, _), (16, _), (15, _), (0, _), (1, _), (2, _), (3, _), (4, _), (5, _), (6, _), (7, _), (8, _), (9, _), (10, _), (11, _), (12, _), (13, _), (14, _)]) (by decide) rfl dL_wins_319 ?_
            refine V.join (P := fun v9 => v9 = clI ((ar 1 i + downI (ar 2 i * (shI (ar 11 (2 * m)) 0 (exI (e0I (zN z 0) m ar)) i)) 8000))) 346 (fun w346 hw346 => ?_) (fun hj346 => ?_)
            · subst hw346
              refine V_istore X (lv' := [(19, _), (18, _), (17, _), (16, _), (15, _), (0, _), (1, _), (2, _), (3, _), (4, _), (5, _), (6, _), (7, _), (8, _), (9, _), (10, _), (11, _), (12, _), (13, _), (14, _)]) (by decide) rfl dL_wins_346 ?_
              refine V.join (P := fun v9 => v9 = nuI (ar 2 i)) 380 (fun w380 hw380 => ?_) (fun hj380 => ?_)
              · subst hw380
                refine V_istore X (lv' := [(20, _), (19, _), (18, _), (17, _), (16, _), (15, _), (0, _), (1, _), (2, _), (3, _), (4, _), (5, _), (6, _), (7, _), (8, _), (9, _), (10, _), (11, _), (12, _), (13, _), (14, _)]) (by decide) rfl dL_wins_380 ?_
                refine V_aload_n X rfl dL_wins_382 ?_
                refine V_iload X rfl dL_wins_383 ?_
                refine V_callVp X (rest := _) (c_X5_rating_t _ _ _ al _ z hR i hlt) (hR.2.1 (15, 0) dm15) rfl gL_wins_X5_rating rfl hdv_X5_rating (Nat.le_of_ble_eq_true rfl) (Nat.le_of_ble_eq_true rfl) rfl (Nat.le_of_ble_eq_true rfl) dL_wins_385 ?_
                refine V.top (y := clI (ar 1 i + downI (ar 2 i * (shI (ar 11 (2 * m)) 0 (exI (e0I (zN z 0) m ar)) i)) 8000)) (hg1i hin) ?_
                refine V_iload X rfl dL_wins_388 ?_
                refine V_icmp_ne X (tgt := 458) (by decide) dL_wins_390 (fun hc390 => absurd hc390 (fun q => q rfl)) (fun hc390 => ?_)
                refine V_aload_n X rfl dL_wins_393 ?_
                refine V_iload X rfl dL_wins_394 ?_
                refine V_callVp X (rest := _) (c_X5_uncertainty_t _ _ _ al _ z hR i hlt) (hR.2.1 (15, 0) dm15) rfl gL_wins_X5_uncertainty rfl hdv_X5_uncertainty (Nat.le_of_ble_eq_true rfl) (Nat.le_of_ble_eq_true rfl) rfl (Nat.le_of_ble_eq_true rfl) dL_wins_396 ?_
                refine V.top (y := nuI (ar 2 i)) (hg2i hin) ?_
                refine V_iload X rfl dL_wins_399 ?_
                refine V_if_eq X (tgt := 409) (by decide) dL_wins_401 (fun hc401 => absurd hc401 (by decide)) (fun hc401 => ?_)
                refine V_iload X rfl dL_wins_404 ?_
                refine V_goto X (tgt := 414) (by decide) dL_wins_406 ?_
                refine V_icmp_ne X (tgt := 458) (by decide) dL_wins_414 (fun hc414 => absurd hc414 (fun q => q rfl)) (fun hc414 => ?_)
                refine V_aload_n X rfl dL_wins_417 ?_
                refine V_iload X rfl dL_wins_418 ?_
                refine V_callVp X (rest := _) (c_X5_level_t _ _ _ al _ z hR i hlt) (hR.2.1 (15, 0) dm15) rfl gL_wins_X5_level rfl hdv_X5_level (Nat.le_of_ble_eq_true rfl) (Nat.le_of_ble_eq_true rfl) rfl (Nat.le_of_ble_eq_true rfl) dL_wins_420 ?_
                refine V.top (y := nlI (ar 4 i)) (hg3i hin) ?_
                refine V_iload X rfl dL_wins_423 ?_
                refine V_if_eq X (tgt := 446) (by decide) dL_wins_425 (fun hc425 => absurd hc425 (by decide)) (fun hc425 => ?_)
                refine V_aload X rfl dL_wins_428 ?_
                refine V_iload X rfl dL_wins_430 ?_
                refine V_taL X hT 2 (i) (by decide) (by omega) (mixF_e hlt e4) dL_wins_432 ?_
                refine V_if_le X (tgt := 446) (by decide) dL_wins_433 (fun hc433 => ?_) (fun hc433 => ?_)
                · refine V_aload X rfl dL_wins_446 ?_
                  refine V_iload X rfl dL_wins_448 ?_
                  refine V_taL X hT 2 (i) (by decide) (by omega) (mixF_e hlt e4) dL_wins_450 ?_
                  refine V_icmp_ne X (tgt := 458) (by decide) dL_wins_451 (fun hc451 => absurd hc451 (fun q => q (by unfold nlI; rw [if_pos hc433, Int32.sub_zero]))) (fun hc451 => ?_)
                  refine V_iconst X (v := 1) (by decide) dL_wins_454 ?_
                  refine V_goto X (tgt := 459) (by decide) dL_wins_455 ?_
                  refine V_istore X (lv' := [(13, _), (20, _), (19, _), (18, _), (17, _), (16, _), (15, _), (0, _), (1, _), (2, _), (3, _), (4, _), (5, _), (6, _), (7, _), (8, _), (9, _), (10, _), (11, _), (12, _), (14, _)]) (by decide) rfl dL_wins_459 ?_
                  refine V_iinc X (lv' := [(14, _), (13, _), (20, _), (19, _), (18, _), (17, _), (16, _), (15, _), (0, _), (1, _), (2, _), (3, _), (4, _), (5, _), (6, _), (7, _), (8, _), (9, _), (10, _), (11, _), (12, _)]) (v := nI (i + 1)) rfl (nI_1 _) (by decide) rfl dL_wins_461 ?_
                  refine V_goto X (tgt := 189) (by decide) dL_wins_464 ?_
                  refine V.lvs (lv' := [(0, _), (1, _), (2, _), (3, _), (4, _), (5, _), (6, _), (7, _), (8, _), (9, _), (10, _), (11, _), (12, _), (13, _), (14, _)]) rfl ?_
                  exact ih (zN z 0 - (i + 1)) (by omega) (i + 1) rfl (by omega)
                · refine V_aload X rfl dL_wins_436 ?_
                  refine V_iload X rfl dL_wins_438 ?_
                  refine V_taL X hT 2 (i) (by decide) (by omega) (mixF_e hlt e4) dL_wins_440 ?_
                  refine V_iconst X (v := 1) (by decide) dL_wins_441 ?_
                  refine V_isub X dL_wins_442 ?_
                  refine V_goto X (tgt := 451) (by decide) dL_wins_443 ?_
                  refine V_icmp_ne X (tgt := 458) (by decide) dL_wins_451 (fun hc451 => absurd hc451 (fun q => q (by unfold nlI; rw [if_neg hc433]))) (fun hc451 => ?_)
                  refine V_iconst X (v := 1) (by decide) dL_wins_454 ?_
                  refine V_goto X (tgt := 459) (by decide) dL_wins_455 ?_
                  refine V_istore X (lv' := [(13, _), (20, _), (19, _), (18, _), (17, _), (16, _), (15, _), (0, _), (1, _), (2, _), (3, _), (4, _), (5, _), (6, _), (7, _), (8, _), (9, _), (10, _), (11, _), (12, _), (14, _)]) (by decide) rfl dL_wins_459 ?_
                  refine V_iinc X (lv' := [(14, _), (13, _), (20, _), (19, _), (18, _), (17, _), (16, _), (15, _), (0, _), (1, _), (2, _), (3, _), (4, _), (5, _), (6, _), (7, _), (8, _), (9, _), (10, _), (11, _), (12, _)]) (v := nI (i + 1)) rfl (nI_1 _) (by decide) rfl dL_wins_461 ?_
                  refine V_goto X (tgt := 189) (by decide) dL_wins_464 ?_
                  refine V.lvs (lv' := [(0, _), (1, _), (2, _), (3, _), (4, _), (5, _), (6, _), (7, _), (8, _), (9, _), (10, _), (11, _), (12, _), (13, _), (14, _)]) rfl ?_
                  exact ih (zN z 0 - (i + 1)) (by omega) (i + 1) rfl (by omega)
              · refine V_aload X rfl dL_wins_348 ?_
                refine V_iload X rfl dL_wins_350 ?_
                refine V_taL X hT 1 (i) (by decide) (by omega) (mixF_e hlt e2) dL_wins_352 ?_
                refine V_bipush X (v := 9) (by decide) dL_wins_353 ?_
                refine V_imul X dL_wins_355 ?_
                refine V_bipush X (v := 10) (by decide) dL_wins_356 ?_
                refine V_idiv X (by decide) dL_wins_358 ?_
                refine V_bipush X (v := 50) (by decide) dL_wins_359 ?_
                refine V_icmp_ge X (tgt := 369) (by decide) dL_wins_361 (fun hc361 => ?_) (fun hc361 => ?_)
                · refine V_aload X rfl dL_wins_369 ?_
                  refine V_iload X rfl dL_wins_371 ?_
                  refine V_taL X hT 1 (i) (by decide) (by omega) (mixF_e hlt e2) dL_wins_373 ?_
                  refine V_bipush X (v := 9) (by decide) dL_wins_374 ?_
                  refine V_imul X dL_wins_376 ?_
                  refine V_bipush X (v := 10) (by decide) dL_wins_377 ?_
                  refine V_idiv X (by decide) dL_wins_379 ?_
                  exact hj380 _ ((by unfold nuI; rw [if_pos hc361]))
                · refine V_bipush X (v := 50) (by decide) dL_wins_364 ?_
                  refine V_goto X (tgt := 380) (by decide) dL_wins_366 ?_
                  exact hj380 _ ((by unfold nuI; rw [if_neg hc361]))
            · refine V_iload X rfl dL_wins_321 ?_
              refine V_if_ge X (tgt := 330) (by decide) dL_wins_323 (fun hc323 => ?_) (fun hc323 => ?_)
              · refine V_iload X rfl dL_wins_330 ?_
                refine V_sipush X (v := 4000) (by decide) dL_wins_332 ?_
                refine V_icmp_le X (tgt := 344) (by decide) dL_wins_335 (fun hc335 => ?_) (fun hc335 => ?_)
                · refine V_iload X rfl dL_wins_344 ?_
                  exact hj346 _ ((by unfold clI; rw [if_pos hc323, if_pos hc335]))
                · refine V_sipush X (v := 4000) (by decide) dL_wins_338 ?_
                  refine V_goto X (tgt := 346) (by decide) dL_wins_341 ?_
                  exact hj346 _ ((by unfold clI; rw [if_pos hc323, if_neg hc335]))
              · refine V_iconst X (v := 0) (by decide) dL_wins_326 ?_
                refine V_goto X (tgt := 346) (by decide) dL_wins_327 ?_
                exact hj346 _ ((by unfold clI; rw [if_neg (Int32.not_le.mpr (Int32.not_le.mp hc323))]))
          · refine V_iload X rfl dL_wins_198 ?_
            refine V_if_eq X (tgt := 467) (by decide) dL_wins_200 (fun hc200 => absurd hc200 (by decide)) (fun hc200 => ?_)
            refine V_iload X rfl dL_wins_203 ?_
            refine V_if_eq X (tgt := 224) (by decide) dL_wins_205 (fun hc205 => absurd hc205 (by decide)) (fun hc205 => ?_)
            refine V_aload X rfl dL_wins_208 ?_
            refine V_iload_n X rfl dL_wins_210 ?_
            refine V_ald X hA 1 (m) 31 (by decide) rfl (by omega) (rfl) dL_wins_211 ?_
            refine V_iload X rfl dL_wins_212 ?_
            refine V_callSp X (rest := _) (c_L_has _ _ _ _ _) gL_wins_L_has rfl hds_L_has (Nat.le_of_ble_eq_true rfl) (Nat.le_of_ble_eq_true rfl) rfl (Nat.le_of_ble_eq_true rfl) dL_wins_214 ?_
            refine V.top (y := 1) (by rw [hu1, hin]; rfl) ?_
            refine V_if_eq X (tgt := 224) (by decide) dL_wins_217 (fun hc217 => absurd hc217 (by decide)) (fun hc217 => ?_)
            refine V_iconst X (v := 1) (by decide) dL_wins_220 ?_
            refine V_goto X (tgt := 225) (by decide) dL_wins_221 ?_
            refine V_istore X (lv' := [(15, _), (0, _), (1, _), (2, _), (3, _), (4, _), (5, _), (6, _), (7, _), (8, _), (9, _), (10, _), (11, _), (12, _), (13, _), (14, _)]) (by decide) rfl dL_wins_225 ?_
            refine V_iload X rfl dL_wins_227 ?_
            refine V_iload X rfl dL_wins_229 ?_
            refine V_callSp X (rest := _) (c_L_has _ _ _ _ _) gL_wins_L_has rfl hds_L_has (Nat.le_of_ble_eq_true rfl) (Nat.le_of_ble_eq_true rfl) rfl (Nat.le_of_ble_eq_true rfl) dL_wins_231 ?_
            refine V.top (y := 0) (by rw [g9, hzz]; rfl) ?_
            refine V_iload_n X rfl dL_wins_234 ?_
            refine V_if_ne X (tgt := 242) (by decide) dL_wins_235 (fun hc235 => absurd hc235 (by decide)) (fun hc235 => ?_)
            refine V_iconst X (v := 1) (by decide) dL_wins_238 ?_
            refine V_goto X (tgt := 243) (by decide) dL_wins_239 ?_
            refine V_icmp_ne X (tgt := 252) (by decide) dL_wins_243 (fun hc243 => ?_) (fun hc243 => absurd hc243 (by decide))
            refine V_iconst X (v := 0) (by decide) dL_wins_252 ?_
            refine V_istore X (lv' := [(16, _), (15, _), (0, _), (1, _), (2, _), (3, _), (4, _), (5, _), (6, _), (7, _), (8, _), (9, _), (10, _), (11, _), (12, _), (13, _), (14, _)]) (by decide) rfl dL_wins_253 ?_
            refine V_aload X rfl dL_wins_255 ?_
            refine V_iload X rfl dL_wins_257 ?_
            refine V_taL X hT 1 (i) (by decide) (by omega) (mixF_e hlt e2) dL_wins_259 ?_
            refine V_iload X rfl dL_wins_260 ?_
            refine V_iload X rfl dL_wins_262 ?_
            refine V_iload X rfl dL_wins_264 ?_
            refine V_callSp X (rest := _) (c_L_has _ _ _ _ _) gL_wins_L_has rfl hds_L_has (Nat.le_of_ble_eq_true rfl) (Nat.le_of_ble_eq_true rfl) rfl (Nat.le_of_ble_eq_true rfl) dL_wins_266 ?_
            refine V.top (y := 0) (by rw [g9, hzz]; rfl) ?_
            refine V_if_eq X (tgt := 277) (by decide) dL_wins_269 (fun hc269 => ?_) (fun hc269 => absurd hc269 (by decide))
            refine V_sipush X (v := 1000) (by decide) dL_wins_277 ?_
            refine V_iload X rfl dL_wins_280 ?_
            refine V_isub X dL_wins_282 ?_
            refine V_isub X dL_wins_283 ?_
            refine V_imul X dL_wins_284 ?_
            refine V.top (y := ar 2 i * (shI (ar 11 (2 * m)) 0 (exI (e0I (zN z 0) m ar)) i)) ((congrArg (ar 2 i * ·) (hsn hzz)).symm) ?_
            refine V_istore X (lv' := [(17, _), (16, _), (15, _), (0, _), (1, _), (2, _), (3, _), (4, _), (5, _), (6, _), (7, _), (8, _), (9, _), (10, _), (11, _), (12, _), (13, _), (14, _)]) (by decide) rfl dL_wins_285 ?_
            refine V_iload X rfl dL_wins_287 ?_
            refine V_ldc X (v := 8000000) (by decide +kernel) dL_wins_289 ?_
            refine V_iadd X dL_wins_291 ?_
            refine V_sipush X (v := 8000) (by decide) dL_wins_292 ?_
            refine V_idiv X (by decide) dL_wins_295 ?_
            refine V_sipush X (v := 1000) (by decide) dL_wins_296 ?_
            refine V_isub X dL_wins_299 ?_
            refine V.top (y := downI (ar 2 i * (shI (ar 11 (2 * m)) 0 (exI (e0I (zN z 0) m ar)) i)) 8000) ((downI_8000 hbd.1 hbd.2).symm) ?_
            refine V_istore X (lv' := [(18, _), (17, _), (16, _), (15, _), (0, _), (1, _), (2, _), (3, _), (4, _), (5, _), (6, _), (7, _), (8, _), (9, _), (10, _), (11, _), (12, _), (13, _), (14, _)]) (by decide) rfl dL_wins_300 ?_
            refine V_aload X rfl dL_wins_302 ?_
            refine V_iload X rfl dL_wins_304 ?_
            refine V_taL X hT 0 (i) (by decide) (by omega) (mixF_e hlt e1) dL_wins_306 ?_
            refine V_iload X rfl dL_wins_307 ?_
            refine V_if_eq X (tgt := 317) (by decide) dL_wins_309 (fun hc309 => absurd hc309 (by decide)) (fun hc309 => ?_)
            refine V_iload X rfl dL_wins_312 ?_
            refine V_goto X (tgt := 318) (by decide) dL_wins_314 ?_
            refine V_iadd X dL_wins_318 ?_
            refine V.top (y := (ar 1 i + downI (ar 2 i * (shI (ar 11 (2 * m)) 0 (exI (e0I (zN z 0) m ar)) i)) 8000)) (rfl) ?_
            refine V_istore X (lv' := [(19, _), (18, _), (17, _), (16, _), (15, _), (0, _), (1, _), (2, _), (3, _), (4, _), (5, _), (6, _), (7, _), (8, _), (9, _), (10, _), (11, _), (12, _), (13, _), (14, _)]) (by decide) rfl dL_wins_319 ?_
            refine V.join (P := fun v9 => v9 = clI ((ar 1 i + downI (ar 2 i * (shI (ar 11 (2 * m)) 0 (exI (e0I (zN z 0) m ar)) i)) 8000))) 346 (fun w346 hw346 => ?_) (fun hj346 => ?_)
            · subst hw346
              refine V_istore X (lv' := [(19, _), (18, _), (17, _), (16, _), (15, _), (0, _), (1, _), (2, _), (3, _), (4, _), (5, _), (6, _), (7, _), (8, _), (9, _), (10, _), (11, _), (12, _), (13, _), (14, _)]) (by decide) rfl dL_wins_346 ?_
              refine V.join (P := fun v9 => v9 = nuI (ar 2 i)) 380 (fun w380 hw380 => ?_) (fun hj380 => ?_)
              · subst hw380
                refine V_istore X (lv' := [(20, _), (19, _), (18, _), (17, _), (16, _), (15, _), (0, _), (1, _), (2, _), (3, _), (4, _), (5, _), (6, _), (7, _), (8, _), (9, _), (10, _), (11, _), (12, _), (13, _), (14, _)]) (by decide) rfl dL_wins_380 ?_
                refine V_aload_n X rfl dL_wins_382 ?_
                refine V_iload X rfl dL_wins_383 ?_
                refine V_callVp X (rest := _) (c_X5_rating_t _ _ _ al _ z hR i hlt) (hR.2.1 (15, 0) dm15) rfl gL_wins_X5_rating rfl hdv_X5_rating (Nat.le_of_ble_eq_true rfl) (Nat.le_of_ble_eq_true rfl) rfl (Nat.le_of_ble_eq_true rfl) dL_wins_385 ?_
                refine V.top (y := clI (ar 1 i + downI (ar 2 i * (shI (ar 11 (2 * m)) 0 (exI (e0I (zN z 0) m ar)) i)) 8000)) (hg1i hin) ?_
                refine V_iload X rfl dL_wins_388 ?_
                refine V_icmp_ne X (tgt := 458) (by decide) dL_wins_390 (fun hc390 => absurd hc390 (fun q => q rfl)) (fun hc390 => ?_)
                refine V_aload_n X rfl dL_wins_393 ?_
                refine V_iload X rfl dL_wins_394 ?_
                refine V_callVp X (rest := _) (c_X5_uncertainty_t _ _ _ al _ z hR i hlt) (hR.2.1 (15, 0) dm15) rfl gL_wins_X5_uncertainty rfl hdv_X5_uncertainty (Nat.le_of_ble_eq_true rfl) (Nat.le_of_ble_eq_true rfl) rfl (Nat.le_of_ble_eq_true rfl) dL_wins_396 ?_
                refine V.top (y := nuI (ar 2 i)) (hg2i hin) ?_
                refine V_iload X rfl dL_wins_399 ?_
                refine V_if_eq X (tgt := 409) (by decide) dL_wins_401 (fun hc401 => absurd hc401 (by decide)) (fun hc401 => ?_)
                refine V_iload X rfl dL_wins_404 ?_
                refine V_goto X (tgt := 414) (by decide) dL_wins_406 ?_
                refine V_icmp_ne X (tgt := 458) (by decide) dL_wins_414 (fun hc414 => absurd hc414 (fun q => q rfl)) (fun hc414 => ?_)
                refine V_aload_n X rfl dL_wins_417 ?_
                refine V_iload X rfl dL_wins_418 ?_
                refine V_callVp X (rest := _) (c_X5_level_t _ _ _ al _ z hR i hlt) (hR.2.1 (15, 0) dm15) rfl gL_wins_X5_level rfl hdv_X5_level (Nat.le_of_ble_eq_true rfl) (Nat.le_of_ble_eq_true rfl) rfl (Nat.le_of_ble_eq_true rfl) dL_wins_420 ?_
                refine V.top (y := nlI (ar 4 i)) (hg3i hin) ?_
                refine V_iload X rfl dL_wins_423 ?_
                refine V_if_eq X (tgt := 446) (by decide) dL_wins_425 (fun hc425 => absurd hc425 (by decide)) (fun hc425 => ?_)
                refine V_aload X rfl dL_wins_428 ?_
                refine V_iload X rfl dL_wins_430 ?_
                refine V_taL X hT 2 (i) (by decide) (by omega) (mixF_e hlt e4) dL_wins_432 ?_
                refine V_if_le X (tgt := 446) (by decide) dL_wins_433 (fun hc433 => ?_) (fun hc433 => ?_)
                · refine V_aload X rfl dL_wins_446 ?_
                  refine V_iload X rfl dL_wins_448 ?_
                  refine V_taL X hT 2 (i) (by decide) (by omega) (mixF_e hlt e4) dL_wins_450 ?_
                  refine V_icmp_ne X (tgt := 458) (by decide) dL_wins_451 (fun hc451 => absurd hc451 (fun q => q (by unfold nlI; rw [if_pos hc433, Int32.sub_zero]))) (fun hc451 => ?_)
                  refine V_iconst X (v := 1) (by decide) dL_wins_454 ?_
                  refine V_goto X (tgt := 459) (by decide) dL_wins_455 ?_
                  refine V_istore X (lv' := [(13, _), (20, _), (19, _), (18, _), (17, _), (16, _), (15, _), (0, _), (1, _), (2, _), (3, _), (4, _), (5, _), (6, _), (7, _), (8, _), (9, _), (10, _), (11, _), (12, _), (14, _)]) (by decide) rfl dL_wins_459 ?_
                  refine V_iinc X (lv' := [(14, _), (13, _), (20, _), (19, _), (18, _), (17, _), (16, _), (15, _), (0, _), (1, _), (2, _), (3, _), (4, _), (5, _), (6, _), (7, _), (8, _), (9, _), (10, _), (11, _), (12, _)]) (v := nI (i + 1)) rfl (nI_1 _) (by decide) rfl dL_wins_461 ?_
                  refine V_goto X (tgt := 189) (by decide) dL_wins_464 ?_
                  refine V.lvs (lv' := [(0, _), (1, _), (2, _), (3, _), (4, _), (5, _), (6, _), (7, _), (8, _), (9, _), (10, _), (11, _), (12, _), (13, _), (14, _)]) rfl ?_
                  exact ih (zN z 0 - (i + 1)) (by omega) (i + 1) rfl (by omega)
                · refine V_aload X rfl dL_wins_436 ?_
                  refine V_iload X rfl dL_wins_438 ?_
                  refine V_taL X hT 2 (i) (by decide) (by omega) (mixF_e hlt e4) dL_wins_440 ?_
                  refine V_iconst X (v := 1) (by decide) dL_wins_441 ?_
                  refine V_isub X dL_wins_442 ?_
                  refine V_goto X (tgt := 451) (by decide) dL_wins_443 ?_
                  refine V_icmp_ne X (tgt := 458) (by decide) dL_wins_451 (fun hc451 => absurd hc451 (fun q => q (by unfold nlI; rw [if_neg hc433]))) (fun hc451 => ?_)
                  refine V_iconst X (v := 1) (by decide) dL_wins_454 ?_
                  refine V_goto X (tgt := 459) (by decide) dL_wins_455 ?_
                  refine V_istore X (lv' := [(13, _), (20, _), (19, _), (18, _), (17, _), (16, _), (15, _), (0, _), (1, _), (2, _), (3, _), (4, _), (5, _), (6, _), (7, _), (8, _), (9, _), (10, _), (11, _), (12, _), (14, _)]) (by decide) rfl dL_wins_459 ?_
                  refine V_iinc X (lv' := [(14, _), (13, _), (20, _), (19, _), (18, _), (17, _), (16, _), (15, _), (0, _), (1, _), (2, _), (3, _), (4, _), (5, _), (6, _), (7, _), (8, _), (9, _), (10, _), (11, _), (12, _)]) (v := nI (i + 1)) rfl (nI_1 _) (by decide) rfl dL_wins_461 ?_
                  refine V_goto X (tgt := 189) (by decide) dL_wins_464 ?_
                  refine V.lvs (lv' := [(0, _), (1, _), (2, _), (3, _), (4, _), (5, _), (6, _), (7, _), (8, _), (9, _), (10, _), (11, _), (12, _), (13, _), (14, _)]) rfl ?_
                  exact ih (zN z 0 - (i + 1)) (by omega) (i + 1) rfl (by omega)
              · refine V_aload X rfl dL_wins_348 ?_
                refine V_iload X rfl dL_wins_350 ?_
                refine V_taL X hT 1 (i) (by decide) (by omega) (mixF_e hlt e2) dL_wins_352 ?_
                refine V_bipush X (v := 9) (by decide) dL_wins_353 ?_
                refine V_imul X dL_wins_355 ?_
                refine V_bipush X (v := 10) (by decide) dL_wins_356 ?_
                refine V_idiv X (by decide) dL_wins_358 ?_
                refine V_bipush X (v := 50) (by decide) dL_wins_359 ?_
                refine V_icmp_ge X (tgt := 369) (by decide) dL_wins_361 (fun hc361 => ?_) (fun hc361 => ?_)
                · refine V_aload X rfl dL_wins_369 ?_
                  refine V_iload X rfl dL_wins_371 ?_
                  refine V_taL X hT 1 (i) (by decide) (by omega) (mixF_e hlt e2) dL_wins_373 ?_
                  refine V_bipush X (v := 9) (by decide) dL_wins_374 ?_
                  refine V_imul X dL_wins_376 ?_
                  refine V_bipush X (v := 10) (by decide) dL_wins_377 ?_
                  refine V_idiv X (by decide) dL_wins_379 ?_
                  exact hj380 _ ((by unfold nuI; rw [if_pos hc361]))
                · refine V_bipush X (v := 50) (by decide) dL_wins_364 ?_
                  refine V_goto X (tgt := 380) (by decide) dL_wins_366 ?_
                  exact hj380 _ ((by unfold nuI; rw [if_neg hc361]))
            · refine V_iload X rfl dL_wins_321 ?_
              refine V_if_ge X (tgt := 330) (by decide) dL_wins_323 (fun hc323 => ?_) (fun hc323 => ?_)
              · refine V_iload X rfl dL_wins_330 ?_
                refine V_sipush X (v := 4000) (by decide) dL_wins_332 ?_
                refine V_icmp_le X (tgt := 344) (by decide) dL_wins_335 (fun hc335 => ?_) (fun hc335 => ?_)
                · refine V_iload X rfl dL_wins_344 ?_
                  exact hj346 _ ((by unfold clI; rw [if_pos hc323, if_pos hc335]))
                · refine V_sipush X (v := 4000) (by decide) dL_wins_338 ?_
                  refine V_goto X (tgt := 346) (by decide) dL_wins_341 ?_
                  exact hj346 _ ((by unfold clI; rw [if_pos hc323, if_neg hc335]))
              · refine V_iconst X (v := 0) (by decide) dL_wins_326 ?_
                refine V_goto X (tgt := 346) (by decide) dL_wins_327 ?_
                exact hj346 _ ((by unfold clI; rw [if_neg (Int32.not_le.mpr (Int32.not_le.mp hc323))]))
          · refine V_iload X rfl dL_wins_198 ?_
            refine V_if_eq X (tgt := 467) (by decide) dL_wins_200 (fun hc200 => absurd hc200 (by decide)) (fun hc200 => ?_)
            refine V_iload X rfl dL_wins_203 ?_
            refine V_if_eq X (tgt := 224) (by decide) dL_wins_205 (fun hc205 => absurd hc205 (by decide)) (fun hc205 => ?_)
            refine V_aload X rfl dL_wins_208 ?_
            refine V_iload_n X rfl dL_wins_210 ?_
            refine V_ald X hA 1 (m) 31 (by decide) rfl (by omega) (rfl) dL_wins_211 ?_
            refine V_iload X rfl dL_wins_212 ?_
            refine V_callSp X (rest := _) (c_L_has _ _ _ _ _) gL_wins_L_has rfl hds_L_has (Nat.le_of_ble_eq_true rfl) (Nat.le_of_ble_eq_true rfl) rfl (Nat.le_of_ble_eq_true rfl) dL_wins_214 ?_
            refine V.top (y := 0) (by rw [hu1, hin]; rfl) ?_
            refine V_if_eq X (tgt := 224) (by decide) dL_wins_217 (fun hc217 => ?_) (fun hc217 => absurd hc217 (by decide))
            refine V_iconst X (v := 0) (by decide) dL_wins_224 ?_
            refine V_istore X (lv' := [(15, _), (0, _), (1, _), (2, _), (3, _), (4, _), (5, _), (6, _), (7, _), (8, _), (9, _), (10, _), (11, _), (12, _), (13, _), (14, _)]) (by decide) rfl dL_wins_225 ?_
            refine V_iload X rfl dL_wins_227 ?_
            refine V_iload X rfl dL_wins_229 ?_
            refine V_callSp X (rest := _) (c_L_has _ _ _ _ _) gL_wins_L_has rfl hds_L_has (Nat.le_of_ble_eq_true rfl) (Nat.le_of_ble_eq_true rfl) rfl (Nat.le_of_ble_eq_true rfl) dL_wins_231 ?_
            refine V.top (y := 1) (by rw [g9, hzz]; rfl) ?_
            refine V_iload_n X rfl dL_wins_234 ?_
            refine V_if_ne X (tgt := 242) (by decide) dL_wins_235 (fun hc235 => absurd hc235 (by decide)) (fun hc235 => ?_)
            refine V_iconst X (v := 1) (by decide) dL_wins_238 ?_
            refine V_goto X (tgt := 243) (by decide) dL_wins_239 ?_
            refine V_icmp_ne X (tgt := 252) (by decide) dL_wins_243 (fun hc243 => absurd hc243 (by decide)) (fun hc243 => ?_)
            refine V_sipush X (v := 1000) (by decide) dL_wins_246 ?_
            refine V_goto X (tgt := 253) (by decide) dL_wins_249 ?_
            refine V_istore X (lv' := [(16, _), (15, _), (0, _), (1, _), (2, _), (3, _), (4, _), (5, _), (6, _), (7, _), (8, _), (9, _), (10, _), (11, _), (12, _), (13, _), (14, _)]) (by decide) rfl dL_wins_253 ?_
            refine V_aload X rfl dL_wins_255 ?_
            refine V_iload X rfl dL_wins_257 ?_
            refine V_taL X hT 1 (i) (by decide) (by omega) (mixF_e hlt e2) dL_wins_259 ?_
            refine V_iload X rfl dL_wins_260 ?_
            refine V_iload X rfl dL_wins_262 ?_
            refine V_iload X rfl dL_wins_264 ?_
            refine V_callSp X (rest := _) (c_L_has _ _ _ _ _) gL_wins_L_has rfl hds_L_has (Nat.le_of_ble_eq_true rfl) (Nat.le_of_ble_eq_true rfl) rfl (Nat.le_of_ble_eq_true rfl) dL_wins_266 ?_
            refine V.top (y := 1) (by rw [g9, hzz]; rfl) ?_
            refine V_if_eq X (tgt := 277) (by decide) dL_wins_269 (fun hc269 => absurd hc269 (by decide)) (fun hc269 => ?_)
            refine V_iload X rfl dL_wins_272 ?_
            refine V_goto X (tgt := 283) (by decide) dL_wins_274 ?_
            refine V_isub X dL_wins_283 ?_
            refine V_imul X dL_wins_284 ?_
            refine V.top (y := ar 2 i * (shI (ar 11 (2 * m)) 0 (exI (e0I (zN z 0) m ar)) i)) ((congrArg (ar 2 i * ·) (hsz hzz)).symm) ?_
            refine V_istore X (lv' := [(17, _), (16, _), (15, _), (0, _), (1, _), (2, _), (3, _), (4, _), (5, _), (6, _), (7, _), (8, _), (9, _), (10, _), (11, _), (12, _), (13, _), (14, _)]) (by decide) rfl dL_wins_285 ?_
            refine V_iload X rfl dL_wins_287 ?_
            refine V_ldc X (v := 8000000) (by decide +kernel) dL_wins_289 ?_
            refine V_iadd X dL_wins_291 ?_
            refine V_sipush X (v := 8000) (by decide) dL_wins_292 ?_
            refine V_idiv X (by decide) dL_wins_295 ?_
            refine V_sipush X (v := 1000) (by decide) dL_wins_296 ?_
            refine V_isub X dL_wins_299 ?_
            refine V.top (y := downI (ar 2 i * (shI (ar 11 (2 * m)) 0 (exI (e0I (zN z 0) m ar)) i)) 8000) ((downI_8000 hbd.1 hbd.2).symm) ?_
            refine V_istore X (lv' := [(18, _), (17, _), (16, _), (15, _), (0, _), (1, _), (2, _), (3, _), (4, _), (5, _), (6, _), (7, _), (8, _), (9, _), (10, _), (11, _), (12, _), (13, _), (14, _)]) (by decide) rfl dL_wins_300 ?_
            refine V_aload X rfl dL_wins_302 ?_
            refine V_iload X rfl dL_wins_304 ?_
            refine V_taL X hT 0 (i) (by decide) (by omega) (mixF_e hlt e1) dL_wins_306 ?_
            refine V_iload X rfl dL_wins_307 ?_
            refine V_if_eq X (tgt := 317) (by decide) dL_wins_309 (fun hc309 => ?_) (fun hc309 => absurd hc309 (by decide))
            refine V_iconst X (v := 0) (by decide) dL_wins_317 ?_
            refine V_iadd X dL_wins_318 ?_
            refine V.top (y := ar 1 i) (Int32.add_zero _) ?_
            refine V_istore X (lv' := [(19, _), (18, _), (17, _), (16, _), (15, _), (0, _), (1, _), (2, _), (3, _), (4, _), (5, _), (6, _), (7, _), (8, _), (9, _), (10, _), (11, _), (12, _), (13, _), (14, _)]) (by decide) rfl dL_wins_319 ?_
            refine V.join (P := fun v9 => v9 = clI (ar 1 i)) 346 (fun w346 hw346 => ?_) (fun hj346 => ?_)
            · subst hw346
              refine V_istore X (lv' := [(19, _), (18, _), (17, _), (16, _), (15, _), (0, _), (1, _), (2, _), (3, _), (4, _), (5, _), (6, _), (7, _), (8, _), (9, _), (10, _), (11, _), (12, _), (13, _), (14, _)]) (by decide) rfl dL_wins_346 ?_
              refine V.join (P := fun v9 => v9 = nuI (ar 2 i)) 380 (fun w380 hw380 => ?_) (fun hj380 => ?_)
              · subst hw380
                refine V_istore X (lv' := [(20, _), (19, _), (18, _), (17, _), (16, _), (15, _), (0, _), (1, _), (2, _), (3, _), (4, _), (5, _), (6, _), (7, _), (8, _), (9, _), (10, _), (11, _), (12, _), (13, _), (14, _)]) (by decide) rfl dL_wins_380 ?_
                refine V_aload_n X rfl dL_wins_382 ?_
                refine V_iload X rfl dL_wins_383 ?_
                refine V_callVp X (rest := _) (c_X5_rating_t _ _ _ al _ z hR i hlt) (hR.2.1 (15, 0) dm15) rfl gL_wins_X5_rating rfl hdv_X5_rating (Nat.le_of_ble_eq_true rfl) (Nat.le_of_ble_eq_true rfl) rfl (Nat.le_of_ble_eq_true rfl) dL_wins_385 ?_
                refine V.top (y := clI (ar 1 i)) ((hg1n hin).trans (by rw [hR2, clI_id hR1])) ?_
                refine V_iload X rfl dL_wins_388 ?_
                refine V_icmp_ne X (tgt := 458) (by decide) dL_wins_390 (fun hc390 => absurd hc390 (fun q => q rfl)) (fun hc390 => ?_)
                refine V_aload_n X rfl dL_wins_393 ?_
                refine V_iload X rfl dL_wins_394 ?_
                refine V_callVp X (rest := _) (c_X5_uncertainty_t _ _ _ al _ z hR i hlt) (hR.2.1 (15, 0) dm15) rfl gL_wins_X5_uncertainty rfl hdv_X5_uncertainty (Nat.le_of_ble_eq_true rfl) (Nat.le_of_ble_eq_true rfl) rfl (Nat.le_of_ble_eq_true rfl) dL_wins_396 ?_
                refine V.top (y := ar 2 i) (hg2n hin) ?_
                refine V_iload X rfl dL_wins_399 ?_
                refine V_if_eq X (tgt := 409) (by decide) dL_wins_401 (fun hc401 => ?_) (fun hc401 => absurd hc401 (by decide))
                refine V_aload X rfl dL_wins_409 ?_
                refine V_iload X rfl dL_wins_411 ?_
                refine V_taL X hT 1 (i) (by decide) (by omega) (mixF_e hlt e2) dL_wins_413 ?_
                refine V_icmp_ne X (tgt := 458) (by decide) dL_wins_414 (fun hc414 => absurd hc414 (fun q => q rfl)) (fun hc414 => ?_)
                refine V_aload_n X rfl dL_wins_417 ?_
                refine V_iload X rfl dL_wins_418 ?_
                refine V_callVp X (rest := _) (c_X5_level_t _ _ _ al _ z hR i hlt) (hR.2.1 (15, 0) dm15) rfl gL_wins_X5_level rfl hdv_X5_level (Nat.le_of_ble_eq_true rfl) (Nat.le_of_ble_eq_true rfl) rfl (Nat.le_of_ble_eq_true rfl) dL_wins_420 ?_
                refine V.top (y := ar 4 i) (hg3n hin) ?_
                refine V_iload X rfl dL_wins_423 ?_
                refine V_if_eq X (tgt := 446) (by decide) dL_wins_425 (fun hc425 => ?_) (fun hc425 => absurd hc425 (by decide))
                refine V_aload X rfl dL_wins_446 ?_
                refine V_iload X rfl dL_wins_448 ?_
                refine V_taL X hT 2 (i) (by decide) (by omega) (mixF_e hlt e4) dL_wins_450 ?_
                refine V_icmp_ne X (tgt := 458) (by decide) dL_wins_451 (fun hc451 => absurd hc451 (fun q => q rfl)) (fun hc451 => ?_)
                refine V_iconst X (v := 1) (by decide) dL_wins_454 ?_
                refine V_goto X (tgt := 459) (by decide) dL_wins_455 ?_
                refine V_istore X (lv' := [(13, _), (20, _), (19, _), (18, _), (17, _), (16, _), (15, _), (0, _), (1, _), (2, _), (3, _), (4, _), (5, _), (6, _), (7, _), (8, _), (9, _), (10, _), (11, _), (12, _), (14, _)]) (by decide) rfl dL_wins_459 ?_
                refine V_iinc X (lv' := [(14, _), (13, _), (20, _), (19, _), (18, _), (17, _), (16, _), (15, _), (0, _), (1, _), (2, _), (3, _), (4, _), (5, _), (6, _), (7, _), (8, _), (9, _), (10, _), (11, _), (12, _)]) (v := nI (i + 1)) rfl (nI_1 _) (by decide) rfl dL_wins_461 ?_
                refine V_goto X (tgt := 189) (by decide) dL_wins_464 ?_
                refine V.lvs (lv' := [(0, _), (1, _), (2, _), (3, _), (4, _), (5, _), (6, _), (7, _), (8, _), (9, _), (10, _), (11, _), (12, _), (13, _), (14, _)]) rfl ?_
                exact ih (zN z 0 - (i + 1)) (by omega) (i + 1) rfl (by omega)
              · refine V_aload X rfl dL_wins_348 ?_
                refine V_iload X rfl dL_wins_350 ?_
                refine V_taL X hT 1 (i) (by decide) (by omega) (mixF_e hlt e2) dL_wins_352 ?_
                refine V_bipush X (v := 9) (by decide) dL_wins_353 ?_
                refine V_imul X dL_wins_355 ?_
                refine V_bipush X (v := 10) (by decide) dL_wins_356 ?_
                refine V_idiv X (by decide) dL_wins_358 ?_
                refine V_bipush X (v := 50) (by decide) dL_wins_359 ?_
                refine V_icmp_ge X (tgt := 369) (by decide) dL_wins_361 (fun hc361 => ?_) (fun hc361 => ?_)
                · refine V_aload X rfl dL_wins_369 ?_
                  refine V_iload X rfl dL_wins_371 ?_
                  refine V_taL X hT 1 (i) (by decide) (by omega) (mixF_e hlt e2) dL_wins_373 ?_
                  refine V_bipush X (v := 9) (by decide) dL_wins_374 ?_
                  refine V_imul X dL_wins_376 ?_
                  refine V_bipush X (v := 10) (by decide) dL_wins_377 ?_
                  refine V_idiv X (by decide) dL_wins_379 ?_
                  exact hj380 _ ((by unfold nuI; rw [if_pos hc361]))
                · refine V_bipush X (v := 50) (by decide) dL_wins_364 ?_
                  refine V_goto X (tgt := 380) (by decide) dL_wins_366 ?_
                  exact hj380 _ ((by unfold nuI; rw [if_neg hc361]))
            · refine V_iload X rfl dL_wins_321 ?_
              refine V_if_ge X (tgt := 330) (by decide) dL_wins_323 (fun hc323 => ?_) (fun hc323 => ?_)
              · refine V_iload X rfl dL_wins_330 ?_
                refine V_sipush X (v := 4000) (by decide) dL_wins_332 ?_
                refine V_icmp_le X (tgt := 344) (by decide) dL_wins_335 (fun hc335 => ?_) (fun hc335 => ?_)
                · refine V_iload X rfl dL_wins_344 ?_
                  exact hj346 _ ((by unfold clI; rw [if_pos hc323, if_pos hc335]))
                · refine V_sipush X (v := 4000) (by decide) dL_wins_338 ?_
                  refine V_goto X (tgt := 346) (by decide) dL_wins_341 ?_
                  exact hj346 _ ((by unfold clI; rw [if_pos hc323, if_neg hc335]))
              · refine V_iconst X (v := 0) (by decide) dL_wins_326 ?_
                refine V_goto X (tgt := 346) (by decide) dL_wins_327 ?_
                exact hj346 _ ((by unfold clI; rw [if_neg (Int32.not_le.mpr (Int32.not_le.mp hc323))]))
          · refine V_iload X rfl dL_wins_198 ?_
            refine V_if_eq X (tgt := 467) (by decide) dL_wins_200 (fun hc200 => absurd hc200 (by decide)) (fun hc200 => ?_)
            refine V_iload X rfl dL_wins_203 ?_
            refine V_if_eq X (tgt := 224) (by decide) dL_wins_205 (fun hc205 => absurd hc205 (by decide)) (fun hc205 => ?_)
            refine V_aload X rfl dL_wins_208 ?_
            refine V_iload_n X rfl dL_wins_210 ?_
            refine V_ald X hA 1 (m) 31 (by decide) rfl (by omega) (rfl) dL_wins_211 ?_
            refine V_iload X rfl dL_wins_212 ?_
            refine V_callSp X (rest := _) (c_L_has _ _ _ _ _) gL_wins_L_has rfl hds_L_has (Nat.le_of_ble_eq_true rfl) (Nat.le_of_ble_eq_true rfl) rfl (Nat.le_of_ble_eq_true rfl) dL_wins_214 ?_
            refine V.top (y := 0) (by rw [hu1, hin]; rfl) ?_
            refine V_if_eq X (tgt := 224) (by decide) dL_wins_217 (fun hc217 => ?_) (fun hc217 => absurd hc217 (by decide))
            refine V_iconst X (v := 0) (by decide) dL_wins_224 ?_
            refine V_istore X (lv' := [(15, _), (0, _), (1, _), (2, _), (3, _), (4, _), (5, _), (6, _), (7, _), (8, _), (9, _), (10, _), (11, _), (12, _), (13, _), (14, _)]) (by decide) rfl dL_wins_225 ?_
            refine V_iload X rfl dL_wins_227 ?_
            refine V_iload X rfl dL_wins_229 ?_
            refine V_callSp X (rest := _) (c_L_has _ _ _ _ _) gL_wins_L_has rfl hds_L_has (Nat.le_of_ble_eq_true rfl) (Nat.le_of_ble_eq_true rfl) rfl (Nat.le_of_ble_eq_true rfl) dL_wins_231 ?_
            refine V.top (y := 0) (by rw [g9, hzz]; rfl) ?_
            refine V_iload_n X rfl dL_wins_234 ?_
            refine V_if_ne X (tgt := 242) (by decide) dL_wins_235 (fun hc235 => absurd hc235 (by decide)) (fun hc235 => ?_)
            refine V_iconst X (v := 1) (by decide) dL_wins_238 ?_
            refine V_goto X (tgt := 243) (by decide) dL_wins_239 ?_
            refine V_icmp_ne X (tgt := 252) (by decide) dL_wins_243 (fun hc243 => ?_) (fun hc243 => absurd hc243 (by decide))
            refine V_iconst X (v := 0) (by decide) dL_wins_252 ?_
            refine V_istore X (lv' := [(16, _), (15, _), (0, _), (1, _), (2, _), (3, _), (4, _), (5, _), (6, _), (7, _), (8, _), (9, _), (10, _), (11, _), (12, _), (13, _), (14, _)]) (by decide) rfl dL_wins_253 ?_
            refine V_aload X rfl dL_wins_255 ?_
            refine V_iload X rfl dL_wins_257 ?_
            refine V_taL X hT 1 (i) (by decide) (by omega) (mixF_e hlt e2) dL_wins_259 ?_
            refine V_iload X rfl dL_wins_260 ?_
            refine V_iload X rfl dL_wins_262 ?_
            refine V_iload X rfl dL_wins_264 ?_
            refine V_callSp X (rest := _) (c_L_has _ _ _ _ _) gL_wins_L_has rfl hds_L_has (Nat.le_of_ble_eq_true rfl) (Nat.le_of_ble_eq_true rfl) rfl (Nat.le_of_ble_eq_true rfl) dL_wins_266 ?_
            refine V.top (y := 0) (by rw [g9, hzz]; rfl) ?_
            refine V_if_eq X (tgt := 277) (by decide) dL_wins_269 (fun hc269 => ?_) (fun hc269 => absurd hc269 (by decide))
            refine V_sipush X (v := 1000) (by decide) dL_wins_277 ?_
            refine V_iload X rfl dL_wins_280 ?_
            refine V_isub X dL_wins_282 ?_
            refine V_isub X dL_wins_283 ?_
            refine V_imul X dL_wins_284 ?_
            refine V.top (y := ar 2 i * (shI (ar 11 (2 * m)) 0 (exI (e0I (zN z 0) m ar)) i)) ((congrArg (ar 2 i * ·) (hsn hzz)).symm) ?_
            refine V_istore X (lv' := [(17, _), (16, _), (15, _), (0, _), (1, _), (2, _), (3, _), (4, _), (5, _), (6, _), (7, _), (8, _), (9, _), (10, _), (11, _), (12, _), (13, _), (14, _)]) (by decide) rfl dL_wins_285 ?_
            refine V_iload X rfl dL_wins_287 ?_
            refine V_ldc X (v := 8000000) (by decide +kernel) dL_wins_289 ?_
            refine V_iadd X dL_wins_291 ?_
            refine V_sipush X (v := 8000) (by decide) dL_wins_292 ?_
            refine V_idiv X (by decide) dL_wins_295 ?_
            refine V_sipush X (v := 1000) (by decide) dL_wins_296 ?_
            refine V_isub X dL_wins_299 ?_
            refine V.top (y := downI (ar 2 i * (shI (ar 11 (2 * m)) 0 (exI (e0I (zN z 0) m ar)) i)) 8000) ((downI_8000 hbd.1 hbd.2).symm) ?_
            refine V_istore X (lv' := [(18, _), (17, _), (16, _), (15, _), (0, _), (1, _), (2, _), (3, _), (4, _), (5, _), (6, _), (7, _), (8, _), (9, _), (10, _), (11, _), (12, _), (13, _), (14, _)]) (by decide) rfl dL_wins_300 ?_
            refine V_aload X rfl dL_wins_302 ?_
            refine V_iload X rfl dL_wins_304 ?_
            refine V_taL X hT 0 (i) (by decide) (by omega) (mixF_e hlt e1) dL_wins_306 ?_
            refine V_iload X rfl dL_wins_307 ?_
            refine V_if_eq X (tgt := 317) (by decide) dL_wins_309 (fun hc309 => ?_) (fun hc309 => absurd hc309 (by decide))
            refine V_iconst X (v := 0) (by decide) dL_wins_317 ?_
            refine V_iadd X dL_wins_318 ?_
            refine V.top (y := ar 1 i) (Int32.add_zero _) ?_
            refine V_istore X (lv' := [(19, _), (18, _), (17, _), (16, _), (15, _), (0, _), (1, _), (2, _), (3, _), (4, _), (5, _), (6, _), (7, _), (8, _), (9, _), (10, _), (11, _), (12, _), (13, _), (14, _)]) (by decide) rfl dL_wins_319 ?_
            refine V.join (P := fun v9 => v9 = clI (ar 1 i)) 346 (fun w346 hw346 => ?_) (fun hj346 => ?_)
            · subst hw346
              refine V_istore X (lv' := [(19, _), (18, _), (17, _), (16, _), (15, _), (0, _), (1, _), (2, _), (3, _), (4, _), (5, _), (6, _), (7, _), (8, _), (9, _), (10, _), (11, _), (12, _), (13, _), (14, _)]) (by decide) rfl dL_wins_346 ?_
              refine V.join (P := fun v9 => v9 = nuI (ar 2 i)) 380 (fun w380 hw380 => ?_) (fun hj380 => ?_)
              · subst hw380
                refine V_istore X (lv' := [(20, _), (19, _), (18, _), (17, _), (16, _), (15, _), (0, _), (1, _), (2, _), (3, _), (4, _), (5, _), (6, _), (7, _), (8, _), (9, _), (10, _), (11, _), (12, _), (13, _), (14, _)]) (by decide) rfl dL_wins_380 ?_
                refine V_aload_n X rfl dL_wins_382 ?_
                refine V_iload X rfl dL_wins_383 ?_
                refine V_callVp X (rest := _) (c_X5_rating_t _ _ _ al _ z hR i hlt) (hR.2.1 (15, 0) dm15) rfl gL_wins_X5_rating rfl hdv_X5_rating (Nat.le_of_ble_eq_true rfl) (Nat.le_of_ble_eq_true rfl) rfl (Nat.le_of_ble_eq_true rfl) dL_wins_385 ?_
                refine V.top (y := clI (ar 1 i)) ((hg1n hin).trans (by rw [hR2, clI_id hR1])) ?_
                refine V_iload X rfl dL_wins_388 ?_
                refine V_icmp_ne X (tgt := 458) (by decide) dL_wins_390 (fun hc390 => absurd hc390 (fun q => q rfl)) (fun hc390 => ?_)
                refine V_aload_n X rfl dL_wins_393 ?_
                refine V_iload X rfl dL_wins_394 ?_
                refine V_callVp X (rest := _) (c_X5_uncertainty_t _ _ _ al _ z hR i hlt) (hR.2.1 (15, 0) dm15) rfl gL_wins_X5_uncertainty rfl hdv_X5_uncertainty (Nat.le_of_ble_eq_true rfl) (Nat.le_of_ble_eq_true rfl) rfl (Nat.le_of_ble_eq_true rfl) dL_wins_396 ?_
                refine V.top (y := ar 2 i) (hg2n hin) ?_
                refine V_iload X rfl dL_wins_399 ?_
                refine V_if_eq X (tgt := 409) (by decide) dL_wins_401 (fun hc401 => ?_) (fun hc401 => absurd hc401 (by decide))
                refine V_aload X rfl dL_wins_409 ?_
                refine V_iload X rfl dL_wins_411 ?_
                refine V_taL X hT 1 (i) (by decide) (by omega) (mixF_e hlt e2) dL_wins_413 ?_
                refine V_icmp_ne X (tgt := 458) (by decide) dL_wins_414 (fun hc414 => absurd hc414 (fun q => q rfl)) (fun hc414 => ?_)
                refine V_aload_n X rfl dL_wins_417 ?_
                refine V_iload X rfl dL_wins_418 ?_
                refine V_callVp X (rest := _) (c_X5_level_t _ _ _ al _ z hR i hlt) (hR.2.1 (15, 0) dm15) rfl gL_wins_X5_level rfl hdv_X5_level (Nat.le_of_ble_eq_true rfl) (Nat.le_of_ble_eq_true rfl) rfl (Nat.le_of_ble_eq_true rfl) dL_wins_420 ?_
                refine V.top (y := ar 4 i) (hg3n hin) ?_
                refine V_iload X rfl dL_wins_423 ?_
                refine V_if_eq X (tgt := 446) (by decide) dL_wins_425 (fun hc425 => ?_) (fun hc425 => absurd hc425 (by decide))
                refine V_aload X rfl dL_wins_446 ?_
                refine V_iload X rfl dL_wins_448 ?_
                refine V_taL X hT 2 (i) (by decide) (by omega) (mixF_e hlt e4) dL_wins_450 ?_
                refine V_icmp_ne X (tgt := 458) (by decide) dL_wins_451 (fun hc451 => absurd hc451 (fun q => q rfl)) (fun hc451 => ?_)
                refine V_iconst X (v := 1) (by decide) dL_wins_454 ?_
                refine V_goto X (tgt := 459) (by decide) dL_wins_455 ?_
                refine V_istore X (lv' := [(13, _), (20, _), (19, _), (18, _), (17, _), (16, _), (15, _), (0, _), (1, _), (2, _), (3, _), (4, _), (5, _), (6, _), (7, _), (8, _), (9, _), (10, _), (11, _), (12, _), (14, _)]) (by decide) rfl dL_wins_459 ?_
                refine V_iinc X (lv' := [(14, _), (13, _), (20, _), (19, _), (18, _), (17, _), (16, _), (15, _), (0, _), (1, _), (2, _), (3, _), (4, _), (5, _), (6, _), (7, _), (8, _), (9, _), (10, _), (11, _), (12, _)]) (v := nI (i + 1)) rfl (nI_1 _) (by decide) rfl dL_wins_461 ?_
                refine V_goto X (tgt := 189) (by decide) dL_wins_464 ?_
                refine V.lvs (lv' := [(0, _), (1, _), (2, _), (3, _), (4, _), (5, _), (6, _), (7, _), (8, _), (9, _), (10, _), (11, _), (12, _), (13, _), (14, _)]) rfl ?_
                exact ih (zN z 0 - (i + 1)) (by omega) (i + 1) rfl (by omega)
              · refine V_aload X rfl dL_wins_348 ?_
                refine V_iload X rfl dL_wins_350 ?_
                refine V_taL X hT 1 (i) (by decide) (by omega) (mixF_e hlt e2) dL_wins_352 ?_
                refine V_bipush X (v := 9) (by decide) dL_wins_353 ?_
                refine V_imul X dL_wins_355 ?_
                refine V_bipush X (v := 10) (by decide) dL_wins_356 ?_
                refine V_idiv X (by decide) dL_wins_358 ?_
                refine V_bipush X (v := 50) (by decide) dL_wins_359 ?_
                refine V_icmp_ge X (tgt := 369) (by decide) dL_wins_361 (fun hc361 => ?_) (fun hc361 => ?_)
                · refine V_aload X rfl dL_wins_369 ?_
                  refine V_iload X rfl dL_wins_371 ?_
                  refine V_taL X hT 1 (i) (by decide) (by omega) (mixF_e hlt e2) dL_wins_373 ?_
                  refine V_bipush X (v := 9) (by decide) dL_wins_374 ?_
                  refine V_imul X dL_wins_376 ?_
                  refine V_bipush X (v := 10) (by decide) dL_wins_377 ?_
                  refine V_idiv X (by decide) dL_wins_379 ?_
                  exact hj380 _ ((by unfold nuI; rw [if_pos hc361]))
                · refine V_bipush X (v := 50) (by decide) dL_wins_364 ?_
                  refine V_goto X (tgt := 380) (by decide) dL_wins_366 ?_
                  exact hj380 _ ((by unfold nuI; rw [if_neg hc361]))
            · refine V_iload X rfl dL_wins_321 ?_
              refine V_if_ge X (tgt := 330) (by decide) dL_wins_323 (fun hc323 => ?_) (fun hc323 => ?_)
              · refine V_iload X rfl dL_wins_330 ?_
                refine V_sipush X (v := 4000) (by decide) dL_wins_332 ?_
                refine V_icmp_le X (tgt := 344) (by decide) dL_wins_335 (fun hc335 => ?_) (fun hc335 => ?_)
                · refine V_iload X rfl dL_wins_344 ?_
                  exact hj346 _ ((by unfold clI; rw [if_pos hc323, if_pos hc335]))
                · refine V_sipush X (v := 4000) (by decide) dL_wins_338 ?_
                  refine V_goto X (tgt := 346) (by decide) dL_wins_341 ?_
                  exact hj346 _ ((by unfold clI; rw [if_pos hc323, if_neg hc335]))
              · refine V_iconst X (v := 0) (by decide) dL_wins_326 ?_
                refine V_goto X (tgt := 346) (by decide) dL_wins_327 ?_
                exact hj346 _ ((by unfold clI; rw [if_neg (Int32.not_le.mpr (Int32.not_le.mp hc323))]))
    refine V_istore X (lv' := [(12, _), (0, _), (1, _), (2, _), (3, _), (4, _), (5, _), (6, _), (7, _), (8, _), (9, _), (10, _), (11, _)]) (by decide) rfl dL_wins_161 ?_
    refine V_iload X rfl dL_wins_163 ?_
    refine V_iload X rfl dL_wins_165 ?_
    refine V_if_eq X (tgt := 174) (by decide) dL_wins_167 (fun hc167 => absurd hc167 (by decide)) (fun hc167 => ?_)
    refine V_iconst X (v := 0) (by decide) dL_wins_170 ?_
    refine V_goto X (tgt := 176) (by decide) dL_wins_171 ?_
    refine V_icmp_ne X (tgt := 183) (by decide) dL_wins_176 (fun hc176 => absurd hc176 (fun q => q rfl)) (fun hc176 => ?_)
    refine V_iconst X (v := 1) (by decide) dL_wins_179 ?_
    refine V_goto X (tgt := 184) (by decide) dL_wins_180 ?_
    refine V_istore X (lv' := [(13, _), (12, _), (0, _), (1, _), (2, _), (3, _), (4, _), (5, _), (6, _), (7, _), (8, _), (9, _), (10, _), (11, _)]) (by decide) rfl dL_wins_184 ?_
    refine V_iconst X (v := 0) (by decide) dL_wins_186 ?_
    refine V_istore X (lv' := [(14, _), (13, _), (12, _), (0, _), (1, _), (2, _), (3, _), (4, _), (5, _), (6, _), (7, _), (8, _), (9, _), (10, _), (11, _)]) (by decide) rfl dL_wins_187 ?_
    refine V.lvs (lv' := [(0, _), (1, _), (2, _), (3, _), (4, _), (5, _), (6, _), (7, _), (8, _), (9, _), (10, _), (11, _), (12, _), (13, _), (14, _)]) rfl ?_
    exact L2 _ 0 rfl (Nat.zero_le _)
  have L1 : ∀ (n i : Nat), zN z 0 - i = n → i ≤ zN z 0 → ∀ f1 : Wo, TA (kG K) 3 B (fun j => mixF i (sr3 fi j) (fun _ => 0)) f1 → FrT f0 f1 → V K f1 1 6 106 [(0, .ref (al (15, 0))), (1, .int (nI m)), (2, .int 0), (3, .ref (A 0)), (4, .ref (A 1)), (5, .ref (A 6)), (6, .ref (B 0)), (7, .ref (B 1)), (8, .ref (B 2)), (9, .int 1), (10, .int (fi 9 m)), (11, .int (exI (e0I (zN z 0) m ar))), (12, .int (nI i))] [] := by
    intro n
    induction n using Nat.strongRecOn with
    | ind n ih =>
      intro i hn hi f1 hT hF
      have hR := hR.keepT hF
      have hA := hA.ft hF
      refine V_iload X rfl dL_wins_106 ?_
      refine V_aload X rfl dL_wins_108 ?_
      refine V_iconst X (v := 1) (by decide) dL_wins_110 ?_
      refine V_ald X hA 6 (1) 4 (by decide) rfl (by omega) (hI.c1) dL_wins_111 ?_
      refine V_icmp_ge X (tgt := 154) (by decide) dL_wins_112 (fun hc112 => ?_) (fun hc112 => ?_)
      · have hiN := lim_ge (N := zN z 0) rfl hc112 hi (by omega)
        rw [hiN] at hT
        refine V.lvs (lv' := [(0, _), (1, _), (2, _), (3, _), (4, _), (5, _), (6, _), (7, _), (8, _), (9, _), (10, _), (11, _)]) rfl ?_
        exact T4 _ hT hF
      · have hlt := lim_lt (N := zN z 0) rfl hc112 hi (by omega)
        refine V_aload X rfl dL_wins_115 ?_
        refine V_iload X rfl dL_wins_117 ?_
        refine V_aload_n X rfl dL_wins_119 ?_
        refine V_iload X rfl dL_wins_120 ?_
        refine V_callVp X (rest := _) (c_X5_rating_t _ _ _ al fi z hR i hlt) (hR.2.1 (15, 0) dm15) rfl gL_wins_X5_rating rfl hdv_X5_rating (Nat.le_of_ble_eq_true rfl) (Nat.le_of_ble_eq_true rfl) rfl (Nat.le_of_ble_eq_true rfl) dL_wins_122 ?_
        refine V_taS X hT 0 (i) (by decide) (by omega) dL_wins_125 (fun f hT hG => ?_)
        have hG1 := hG
        have hR := hR.keepT hG
        have hA := hA.ft hG
        refine V_aload X rfl dL_wins_126 ?_
        refine V_iload X rfl dL_wins_128 ?_
        refine V_aload_n X rfl dL_wins_130 ?_
        refine V_iload X rfl dL_wins_131 ?_
        refine V_callVp X (rest := _) (c_X5_uncertainty_t _ _ _ al fi z hR i hlt) (hR.2.1 (15, 0) dm15) rfl gL_wins_X5_uncertainty rfl hdv_X5_uncertainty (Nat.le_of_ble_eq_true rfl) (Nat.le_of_ble_eq_true rfl) rfl (Nat.le_of_ble_eq_true rfl) dL_wins_133 ?_
        refine V_taS X hT 1 (i) (by decide) (by omega) dL_wins_136 (fun f hT hG => ?_)
        have hG2 := hG
        have hR := hR.keepT hG
        have hA := hA.ft hG
        refine V_aload X rfl dL_wins_137 ?_
        refine V_iload X rfl dL_wins_139 ?_
        refine V_aload_n X rfl dL_wins_141 ?_
        refine V_iload X rfl dL_wins_142 ?_
        refine V_callVp X (rest := _) (c_X5_level_t _ _ _ al fi z hR i hlt) (hR.2.1 (15, 0) dm15) rfl gL_wins_X5_level rfl hdv_X5_level (Nat.le_of_ble_eq_true rfl) (Nat.le_of_ble_eq_true rfl) rfl (Nat.le_of_ble_eq_true rfl) dL_wins_144 ?_
        refine V_taS X hT 2 (i) (by decide) (by omega) dL_wins_147 (fun f hT hG => ?_)
        have hG3 := hG
        have hR := hR.keepT hG
        have hA := hA.ft hG
        refine V_iinc X (lv' := [(12, _), (0, _), (1, _), (2, _), (3, _), (4, _), (5, _), (6, _), (7, _), (8, _), (9, _), (10, _), (11, _)]) (v := nI (i + 1)) rfl (nI_1 _) (by decide) rfl dL_wins_148 ?_
        refine V_goto X (tgt := 106) (by decide) dL_wins_151 ?_
        refine V.lvs (lv' := [(0, _), (1, _), (2, _), (3, _), (4, _), (5, _), (6, _), (7, _), (8, _), (9, _), (10, _), (11, _), (12, _)]) rfl ?_
        exact ih (zN z 0 - (i + 1)) (by omega) (i + 1) rfl (by omega) _ (hT.cg (sr3_step fi i)) (((hF.trans hG1).trans hG2).trans hG3)
  refine V_astore X (lv' := [(8, _), (7, _), (6, _), (0, _), (1, _), (2, _), (3, _), (4, _), (5, _)]) (by decide) rfl dL_wins_16 ?_
  refine V_aload X rfl dL_wins_18 ?_
  refine V_iload_n X rfl dL_wins_20 ?_
  refine V_ald X hA 1 (m) 31 (by decide) rfl (by omega) (u3) dL_wins_21 ?_
  refine V_bipush X (v := 18) (by decide) dL_wins_22 ?_
  refine V_ishr X dL_wins_24 ?_
  refine V_iconst X (v := 3) (by decide) dL_wins_25 ?_
  refine V_iand X dL_wins_26 ?_
  refine V.top (y := nI T) (j_st hU hT4) ?_
  refine V_iconst X (v := 1) (by decide) dL_wins_27 ?_
  refine V_icmp_ne X (tgt := 35) (by decide) dL_wins_28 (fun hc28 => absurd hc28 (fun q => q (by rw [← u2, ← m13]; exact hst))) (fun hc28 => ?_)
  refine V_iconst X (v := 1) (by decide) dL_wins_31 ?_
  refine V_goto X (tgt := 36) (by decide) dL_wins_32 ?_
  refine V_istore X (lv' := [(9, _), (8, _), (7, _), (6, _), (0, _), (1, _), (2, _), (3, _), (4, _), (5, _)]) (by decide) rfl dL_wins_36 ?_
  refine V_aload_n X rfl dL_wins_38 ?_
  refine V_iload_n X rfl dL_wins_39 ?_
  refine V_iconst X (v := 0) (by decide) dL_wins_40 ?_
  refine V_callVp X (rest := _) (c_X5_team_t _ _ _ al fi z hR m hm 0 (Or.inl rfl)) (hR.2.1 (15, 0) dm15) rfl gL_wins_X5_team rfl hdv_X5_team (Nat.le_of_ble_eq_true rfl) (Nat.le_of_ble_eq_true rfl) rfl (Nat.le_of_ble_eq_true rfl) dL_wins_41 ?_
  refine V.top (y := fi 9 m) (if_pos rfl) ?_
  refine V_istore X (lv' := [(10, _), (9, _), (8, _), (7, _), (6, _), (0, _), (1, _), (2, _), (3, _), (4, _), (5, _)]) (by decide) rfl dL_wins_44 ?_
  refine V_sipush X (v := 500) (by decide) dL_wins_46 ?_
  refine V_aload_n X rfl dL_wins_49 ?_
  refine V_iload X rfl dL_wins_50 ?_
  refine V_callSp X (rest := _) (c_L_sum _ _ _ al fi z hR (fi 9 m) hs0) gL_wins_L_sum rfl hds_L_sum (Nat.le_of_ble_eq_true rfl) (Nat.le_of_ble_eq_true rfl) rfl (Nat.le_of_ble_eq_true rfl) dL_wins_52 ?_
  refine V.top (y := smI (zN z 0) (ar 11 (2 * m)) (ar 1)) (hsm0) ?_
  refine V_iconst X (v := 3) (by decide) dL_wins_55 ?_
  refine V_idiv X (by decide) dL_wins_56 ?_
  refine V_iadd X dL_wins_57 ?_
  refine V_aload_n X rfl dL_wins_58 ?_
  refine V_aload_n X rfl dL_wins_59 ?_
  refine V_iload_n X rfl dL_wins_60 ?_
  refine V_iconst X (v := 1) (by decide) dL_wins_61 ?_
  refine V_callVp X (rest := _) (c_X5_team_t _ _ _ al fi z hR m hm 1 (Or.inr rfl)) (hR.2.1 (15, 0) dm15) rfl gL_wins_X5_team rfl hdv_X5_team (Nat.le_of_ble_eq_true rfl) (Nat.le_of_ble_eq_true rfl) rfl (Nat.le_of_ble_eq_true rfl) dL_wins_62 ?_
  refine V.top (y := fi 10 m) (if_neg (by decide)) ?_
  refine V_callSp X (rest := _) (c_L_sum _ _ _ al fi z hR (fi 10 m) hs1) gL_wins_L_sum rfl hds_L_sum (Nat.le_of_ble_eq_true rfl) (Nat.le_of_ble_eq_true rfl) rfl (Nat.le_of_ble_eq_true rfl) dL_wins_65 ?_
  refine V.top (y := smI (zN z 0) (ar 11 (2 * m + 1)) (ar 1)) (hsm1) ?_
  refine V_iconst X (v := 3) (by decide) dL_wins_68 ?_
  refine V_idiv X (by decide) dL_wins_69 ?_
  refine V_isub X dL_wins_70 ?_
  refine V.top (y := e0I (zN z 0) m ar) (rfl) ?_
  refine V_istore X (lv' := [(11, _), (10, _), (9, _), (8, _), (7, _), (6, _), (0, _), (1, _), (2, _), (3, _), (4, _), (5, _)]) (by decide) rfl dL_wins_71 ?_
  refine V.join (P := fun v9 => v9 = (exI (e0I (zN z 0) m ar))) 101 (fun w101 hw101 => ?_) (fun hj101 => ?_)
  · subst hw101
    refine V_istore X (lv' := [(11, _), (10, _), (9, _), (8, _), (7, _), (6, _), (0, _), (1, _), (2, _), (3, _), (4, _), (5, _)]) (by decide) rfl dL_wins_101 ?_
    refine V_iconst X (v := 0) (by decide) dL_wins_103 ?_
    refine V_istore X (lv' := [(12, _), (11, _), (10, _), (9, _), (8, _), (7, _), (6, _), (0, _), (1, _), (2, _), (3, _), (4, _), (5, _)]) (by decide) rfl dL_wins_104 ?_
    refine V.lvs (lv' := [(0, _), (1, _), (2, _), (3, _), (4, _), (5, _), (6, _), (7, _), (8, _), (9, _), (10, _), (11, _), (12, _)]) rfl ?_
    exact L1 _ 0 rfl (Nat.zero_le _) _ hTT FrT.rf
  · refine V_iload X rfl dL_wins_73 ?_
    refine V_bipush X (v := 50) (by decide) dL_wins_75 ?_
    refine V_icmp_ge X (tgt := 85) (by decide) dL_wins_77 (fun hc77 => ?_) (fun hc77 => ?_)
    · refine V_iload X rfl dL_wins_85 ?_
      refine V_sipush X (v := 950) (by decide) dL_wins_87 ?_
      refine V_icmp_le X (tgt := 99) (by decide) dL_wins_90 (fun hc90 => ?_) (fun hc90 => ?_)
      · refine V_iload X rfl dL_wins_99 ?_
        exact hj101 _ ((by show _ = exI (e0I (zN z 0) m ar); unfold exI; rw [if_pos hc77, if_pos hc90]))
      · refine V_sipush X (v := 950) (by decide) dL_wins_93 ?_
        refine V_goto X (tgt := 101) (by decide) dL_wins_96 ?_
        exact hj101 _ ((by show _ = exI (e0I (zN z 0) m ar); unfold exI; rw [if_pos hc77, if_neg hc90]))
    · refine V_bipush X (v := 50) (by decide) dL_wins_80 ?_
      refine V_goto X (tgt := 101) (by decide) dL_wins_82 ?_
      exact hj101 _ ((by show _ = exI (e0I (zN z 0) m ar); unfold exI; rw [if_neg hc77]))
set_option maxHeartbeats 4000000 in
set_option maxRecDepth 100000 in
theorem c_L_wins_n0 (l : Launch) (hl : l.stackTraces = false) (G : GG) (f : Wo) (al : Tg → Nat) (fi : Nat → Nat → Int32) (z : CZ) (hR : RC G al fi z f) (A : Nat → Nat) (lq : Nat → Int64) (la : Nat → Nat → Int32) (hA : LA G A lq la f) (c : Nat) (sc : Nat → Int32) (ar : Nat → Nat → Int32) (hS : SM c fi z sc ar) (hB : BR ar) (P S Q M : Nat → Nat) (hI : IV c (zN z 0) (zN z 1) (zN z 2) ar lq la P S Q M) (m : Nat) (hm : m < zN z 2) (hst : ¬ fi 13 m = 1) : Ct l yL_wins wsL_wins 15 296 G [.ref (al (15, 0)), .int (nI m), .int 0, .ref (A 0), .ref (A 1), .ref (A 6)] f (fun r f' => r = some (.int 1) ∧ LW G A (al (15, 0)) f' c (zN z 0) (zN z 1) (zN z 2)) 4 60 := by
  refine Ct.of (cc := cL_wins) (maxL := 21) (ret := (some .boolean)) (by decide) rfl (Nat.le_of_ble_eq_true rfl) (lv := [(0, _), (1, _), (2, _), (3, _), (4, _), (5, _)]) rfl (by simp [Value.category]) ?_
  intro K X hL hG hr hnm
  subst hL; subst hG
  have h18 := hI.np
  have h60 := hI.nt
  have h30 := hI.nm
  have h2k := hI.cc
  obtain ⟨⟨U, T, hU, hT4, u1, u2, u3⟩, u4, u5, b0, b1, -⟩ := hI.ma hm
  obtain ⟨g9, g10, -, m13, -⟩ := hS.mt hm
  have hs0 : ∀ k, k < 18 → hsI (fi 9 m) (nI k) = true → k < zN z 0 := fun k hk h => Nat.lt_of_not_le fun q => by rw [g9, q_bw_h b0 q (by omega)] at h; cases h
  have hs1 : ∀ k, k < 18 → hsI (fi 10 m) (nI k) = true → k < zN z 0 := fun k hk h => Nat.lt_of_not_le fun q => by rw [g10, q_bw_h b1 q (by omega)] at h; cases h
  have hsm0 : smI 18 (fi 9 m) (fi 1) = smI (zN z 0) (ar 11 (2 * m)) (ar 1) := by rw [g9]; exact sm_np b0 h18 (fun k hk => (hS.pl hk).1)
  have hsm1 : smI 18 (fi 10 m) (fi 1) = smI (zN z 0) (ar 11 (2 * m + 1)) (ar 1) := by rw [g10]; exact sm_np b1 h18 (fun k hk => (hS.pl hk).1)
  refine V_bipush X (v := 18) (by decide) dL_wins_0 ?_
  refine V_newT X (kc' := 3) (ks' := 42) (N := 18) (42, 0) (by decide +kernel) (by decide) (by decide) (by decide) (by omega) (by omega) dL_wins_2 (fun q0 f2 hN0 hT0 => ?_)
  refine V_astore X (lv' := [(6, _), (0, _), (1, _), (2, _), (3, _), (4, _), (5, _)]) (by decide) rfl dL_wins_4 ?_
  refine V_bipush X (v := 18) (by decide) dL_wins_6 ?_
  refine V_newT X (kc' := 2) (ks' := 24) (N := 18) (42, 1) (by decide +kernel) (by decide) (by decide) (by decide) (by omega) (by omega) dL_wins_8 (fun q1 f3 hN1 hT1 => ?_)
  refine V_astore X (lv' := [(7, _), (6, _), (0, _), (1, _), (2, _), (3, _), (4, _), (5, _)]) (by decide) rfl dL_wins_10 ?_
  refine V_bipush X (v := 18) (by decide) dL_wins_12 ?_
  refine V_newT X (kc' := 1) (ks' := 6) (N := 18) (42, 2) (by decide +kernel) (by decide) (by decide) (by decide) (by omega) (by omega) dL_wins_14 (fun q2 f0 hN2 hT2 => ?_)
  have hNN : FrN f f0 := (hN0.trans hN1).trans hN2
  have hR := hR.keepA hNN.a
  have hA := hA.fr hNN.c
  obtain ⟨B, hB0, hB1, hB2⟩ : ∃ B : Nat → Nat, B 0 = q0 ∧ B 1 = q1 ∧ B 2 = q2 := ⟨fun j => if j = 0 then q0 else if j = 1 then q1 else q2, rfl, rfl, rfl⟩
  have hTT : TA (kG K) 3 B (fun j => mixF 0 (sr3 fi j) (fun _ => 0)) f0 := fun j hj => by
      show f0 (B j) = some ((42, j), oI (kG K) 18 (mixF 0 (sr3 fi j) (fun _ => 0)))
      rw [mixF_0]
      rcases (show j = 0 ∨ j = 1 ∨ j = 2 by omega) with h | h | h
      · subst h; rw [hB0]; exact hN2 _ _ (hN1 _ _ hT0)
      · subst h; rw [hB1]; exact hN2 _ _ hT1
      · subst h; rw [hB2]; exact hT2
  clear hNN hN0 hN1 hN2 hT0 hT1 hT2
  rw [← hB0, ← hB1, ← hB2]
  have T4 : ∀ f1 : Wo, TA (kG K) 3 B (fun j => mixF (zN z 0) (sr3 fi j) (fun _ => 0)) f1 → FrT f0 f1 → V K f1 1 6 154 [(0, .ref (al (15, 0))), (1, .int (nI m)), (2, .int 0), (3, .ref (A 0)), (4, .ref (A 1)), (5, .ref (A 6)), (6, .ref (B 0)), (7, .ref (B 1)), (8, .ref (B 2)), (9, .int 0), (10, .int (fi 9 m)), (11, .int (exI (e0I (zN z 0) m ar)))] [] := by
    intro f1 hT hF
    have hR := hR.keepT hF
    have hA := hA.ft hF
    refine V_aload_n X rfl dL_wins_154 ?_
    refine V_iconst X (v := 4) (by decide) dL_wins_155 ?_
    refine V_iload_n X rfl dL_wins_156 ?_
    refine V_iload_n X rfl dL_wins_157 ?_
    refine V_callSH (kc' := 0) (ks' := 0) X (rest := _) (c_L_asks_f_s _ hl _ _ al fi z hR m hm 0 (by decide) hst) gL_wins_L_asks rfl hds_L_asks (Nat.le_of_ble_eq_true rfl) (Nat.le_of_ble_eq_true rfl) rfl (Nat.le_of_ble_eq_true rfl) (by omega) (by omega) dL_wins_158 (fun r9 f9 h9 => ?_)
    obtain ⟨rfl, h9e⟩ := h9
    have h9f := h9e.symm
    subst h9f
    have T5 : V K f1 0 0 467 [(0, .ref (al (15, 0))), (1, .int (nI m)), (2, .int 0), (3, .ref (A 0)), (4, .ref (A 1)), (5, .ref (A 6)), (6, .ref (B 0)), (7, .ref (B 1)), (8, .ref (B 2)), (9, .int 0), (10, .int (fi 9 m)), (11, .int (exI (e0I (zN z 0) m ar))), (12, .int (-8)), (13, .int 1)] [] := by
      refine V_iload X rfl dL_wins_467 ?_
      refine V_if_eq X (tgt := 538) (by decide) dL_wins_469 (fun hc469 => ?_) (fun hc469 => absurd hc469 (by decide))
      refine V_iload X rfl dL_wins_538 ?_
      exact V_zret X hr (by decide) (⟨rfl, al, fi, z, sc, ar, lq, la, P, S, Q, M, rfl, hR, hA, hS, hB, rfl, rfl, rfl, hI⟩) dL_wins_540
    have L2 : ∀ (n i : Nat), zN z 0 - i = n → i ≤ zN z 0 → V K f1 0 0 189 [(0, .ref (al (15, 0))), (1, .int (nI m)), (2, .int 0), (3, .ref (A 0)), (4, .ref (A 1)), (5, .ref (A 6)), (6, .ref (B 0)), (7, .ref (B 1)), (8, .ref (B 2)), (9, .int 0), (10, .int (fi 9 m)), (11, .int (exI (e0I (zN z 0) m ar))), (12, .int (-8)), (13, .int 1), (14, .int (nI i))] [] := by
      intro n
      induction n using Nat.strongRecOn with
      | ind n ih =>
        intro i hn hi
        refine V_iload X rfl dL_wins_189 ?_
        refine V_aload X rfl dL_wins_191 ?_
        refine V_iconst X (v := 1) (by decide) dL_wins_193 ?_
        refine V_ald X hA 6 (1) 4 (by decide) rfl (by omega) (hI.c1) dL_wins_194 ?_
        refine V_icmp_ge X (tgt := 467) (by decide) dL_wins_195 (fun hc195 => ?_) (fun hc195 => ?_)
        · refine V.lvs (lv' := [(0, _), (1, _), (2, _), (3, _), (4, _), (5, _), (6, _), (7, _), (8, _), (9, _), (10, _), (11, _), (12, _), (13, _)]) rfl ?_
          exact T5
        · have hlt := lim_lt (N := zN z 0) rfl hc195 hi (by omega)
          obtain ⟨e1, e2, e3, e4, e6, e5, ⟨v, hv5, hv⟩, -⟩ := hS.pl hlt
          obtain ⟨-, -, ⟨R, hR1, hR2⟩, D, hD1, hD2, hD3⟩ := hI.pl hlt
          have hbd : -400000 ≤ (ar 2 i * (shI (ar 11 (2 * m)) 0 (exI (e0I (zN z 0) m ar)) i)).toInt ∧ (ar 2 i * (shI (ar 11 (2 * m)) 0 (exI (e0I (zN z 0) m ar)) i)).toInt ≤ 400000 := by rw [hD3]; exact sh_bd hD2 (shI_bd _ _ _ _).1 (shI_bd _ _ _ _).2
          have hsz : hsI (ar 11 (2 * m)) (nI i) = true → (shI (ar 11 (2 * m)) 0 (exI (e0I (zN z 0) m ar)) i) = 1000 - (exI (e0I (zN z 0) m ar)) := fun q => by unfold shI tmI; rw [q]; rfl
          have hsn : hsI (ar 11 (2 * m)) (nI i) = false → (shI (ar 11 (2 * m)) 0 (exI (e0I (zN z 0) m ar)) i) = 0 - (1000 - (exI (e0I (zN z 0) m ar))) := fun q => by unfold shI tmI; rw [q]; rfl
          have hcs : hsI (ar 11 (2 * m)) (nI i) = true ∨ hsI (ar 11 (2 * m)) (nI i) = false := by cases hsI (ar 11 (2 * m)) (nI i) <;> simp
          have hg1n := e1
          have hg2n := e2
          have hg3n := e4
          rcases hcs with hzz | hzz
          · refine V_iload X rfl dL_wins_198 ?_
            refine V_if_eq X (tgt := 467) (by decide) dL_wins_200 (fun hc200 => absurd hc200 (by decide)) (fun hc200 => ?_)
            refine V_iload X rfl dL_wins_203 ?_
            refine V_if_eq X (tgt := 224) (by decide) dL_wins_205 (fun hc205 => ?_) (fun hc205 => absurd hc205 (by decide))
            refine V_iconst X (v := 0) (by decide) dL_wins_224 ?_
            refine V_istore X (lv' := [(15, _), (0, _), (1, _), (2, _), (3, _), (4, _), (5, _), (6, _), (7, _), (8, _), (9, _), (10, _), (11, _), (12, _), (13, _), (14, _)]) (by decide) rfl dL_wins_225 ?_
            refine V_iload X rfl dL_wins_227 ?_
            refine V_iload X rfl dL_wins_229 ?_
            refine V_callSp X (rest := _) (c_L_has _ _ _ _ _) gL_wins_L_has rfl hds_L_has (Nat.le_of_ble_eq_true rfl) (Nat.le_of_ble_eq_true rfl) rfl (Nat.le_of_ble_eq_true rfl) dL_wins_231 ?_
            refine V.top (y := 1) (by rw [g9, hzz]; rfl) ?_
            refine V_iload_n X rfl dL_wins_234 ?_
            refine V_if_ne X (tgt := 242) (by decide) dL_wins_235 (fun hc235 => absurd hc235 (by decide)) (fun hc235 => ?_)
            refine V_iconst X (v := 1) (by decide) dL_wins_238 ?_
            refine V_goto X (tgt := 243) (by decide) dL_wins_239 ?_
            refine V_icmp_ne X (tgt := 252) (by decide) dL_wins_243 (fun hc243 => absurd hc243 (by decide)) (fun hc243 => ?_)
            refine V_sipush X (v := 1000) (by decide) dL_wins_246 ?_
            refine V_goto X (tgt := 253) (by decide) dL_wins_249 ?_
            refine V_istore X (lv' := [(16, _), (15, _), (0, _), (1, _), (2, _), (3, _), (4, _), (5, _), (6, _), (7, _), (8, _), (9, _), (10, _), (11, _), (12, _), (13, _), (14, _)]) (by decide) rfl dL_wins_253 ?_
            refine V_aload X rfl dL_wins_255 ?_
            refine V_iload X rfl dL_wins_257 ?_
            refine V_taL X hT 1 (i) (by decide) (by omega) (mixF_e hlt e2) dL_wins_259 ?_
            refine V_iload X rfl dL_wins_260 ?_
            refine V_iload X rfl dL_wins_262 ?_
            refine V_iload X rfl dL_wins_264 ?_
            refine V_callSp X (rest := _) (c_L_has _ _ _ _ _) gL_wins_L_has rfl hds_L_has (Nat.le_of_ble_eq_true rfl) (Nat.le_of_ble_eq_true rfl) rfl (Nat.le_of_ble_eq_true rfl) dL_wins_266 ?_
            refine V.top (y := 1) (by rw [g9, hzz]; rfl) ?_
            refine V_if_eq X (tgt := 277) (by decide) dL_wins_269 (fun hc269 => absurd hc269 (by decide)) (fun hc269 => ?_)
            refine V_iload X rfl dL_wins_272 ?_
            refine V_goto X (tgt := 283) (by decide) dL_wins_274 ?_
            refine V_isub X dL_wins_283 ?_
            refine V_imul X dL_wins_284 ?_
            refine V.top (y := ar 2 i * (shI (ar 11 (2 * m)) 0 (exI (e0I (zN z 0) m ar)) i)) ((congrArg (ar 2 i * ·) (hsz hzz)).symm) ?_
            refine V_istore X (lv' := [(17, _), (16, _), (15, _), (0, _), (1, _), (2, _), (3, _), (4, _), (5, _), (6, _), (7, _), (8, _), (9, _), (10, _), (11, _), (12, _), (13, _), (14, _)]) (by decide) rfl dL_wins_285 ?_
            refine V_iload X rfl dL_wins_287 ?_
            refine V_ldc X (v := 8000000) (by decide +kernel) dL_wins_289 ?_
            refine V_iadd X dL_wins_291 ?_
            refine V_sipush X (v := 8000) (by decide) dL_wins_292 ?_
            refine V_idiv X (by decide) dL_wins_295 ?_
            refine V_sipush X (v := 1000) (by decide) dL_wins_296 ?_
            refine V_isub X dL_wins_299 ?_
            refine V.top (y := downI (ar 2 i * (shI (ar 11 (2 * m)) 0 (exI (e0I (zN z 0) m ar)) i)) 8000) ((downI_8000 hbd.1 hbd.2).symm) ?_
            refine V_istore X (lv' := [(18, _), (17, _), (16, _), (15, _), (0, _), (1, _), (2, _), (3, _), (4, _), (5, _), (6, _), (7, _), (8, _), (9, _), (10, _), (11, _), (12, _), (13, _), (14, _)]) (by decide) rfl dL_wins_300 ?_
            refine V_aload X rfl dL_wins_302 ?_
            refine V_iload X rfl dL_wins_304 ?_
            refine V_taL X hT 0 (i) (by decide) (by omega) (mixF_e hlt e1) dL_wins_306 ?_
            refine V_iload X rfl dL_wins_307 ?_
            refine V_if_eq X (tgt := 317) (by decide) dL_wins_309 (fun hc309 => ?_) (fun hc309 => absurd hc309 (by decide))
            refine V_iconst X (v := 0) (by decide) dL_wins_317 ?_
            refine V_iadd X dL_wins_318 ?_
            refine V.top (y := ar 1 i) (Int32.add_zero _) ?_
            refine V_istore X (lv' := [(19, _), (18, _), (17, _), (16, _), (15, _), (0, _), (1, _), (2, _), (3, _), (4, _), (5, _), (6, _), (7, _), (8, _), (9, _), (10, _), (11, _), (12, _), (13, _), (14, _)]) (by decide) rfl dL_wins_319 ?_
            refine V.join (P := fun v9 => v9 = clI (ar 1 i)) 346 (fun w346 hw346 => ?_) (fun hj346 => ?_)
            · subst hw346
              refine V_istore X (lv' := [(19, _), (18, _), (17, _), (16, _), (15, _), (0, _), (1, _), (2, _), (3, _), (4, _), (5, _), (6, _), (7, _), (8, _), (9, _), (10, _), (11, _), (12, _), (13, _), (14, _)]) (by decide) rfl dL_wins_346 ?_
              refine V.join (P := fun v9 => v9 = nuI (ar 2 i)) 380 (fun w380 hw380 => ?_) (fun hj380 => ?_)
              · subst hw380
                refine V_istore X (lv' := [(20, _), (19, _), (18, _), (17, _), (16, _), (15, _), (0, _), (1, _), (2, _), (3, _), (4, _), (5, _), (6, _), (7, _), (8, _), (9, _), (10, _), (11, _), (12, _), (13, _), (14, _)]) (by decide) rfl dL_wins_380 ?_
                refine V_aload_n X rfl dL_wins_382 ?_
                refine V_iload X rfl dL_wins_383 ?_
                refine V_callVp X (rest := _) (c_X5_rating_t _ _ _ al _ z hR i hlt) (hR.2.1 (15, 0) dm15) rfl gL_wins_X5_rating rfl hdv_X5_rating (Nat.le_of_ble_eq_true rfl) (Nat.le_of_ble_eq_true rfl) rfl (Nat.le_of_ble_eq_true rfl) dL_wins_385 ?_
                refine V.top (y := clI (ar 1 i)) ((hg1n ).trans (by rw [hR2, clI_id hR1])) ?_
                refine V_iload X rfl dL_wins_388 ?_
                refine V_icmp_ne X (tgt := 458) (by decide) dL_wins_390 (fun hc390 => absurd hc390 (fun q => q rfl)) (fun hc390 => ?_)
                refine V_aload_n X rfl dL_wins_393 ?_
                refine V_iload X rfl dL_wins_394 ?_
                refine V_callVp X (rest := _) (c_X5_uncertainty_t _ _ _ al _ z hR i hlt) (hR.2.1 (15, 0) dm15) rfl gL_wins_X5_uncertainty rfl hdv_X5_uncertainty (Nat.le_of_ble_eq_true rfl) (Nat.le_of_ble_eq_true rfl) rfl (Nat.le_of_ble_eq_true rfl) dL_wins_396 ?_
                refine V.top (y := ar 2 i) (hg2n ) ?_
                refine V_iload X rfl dL_wins_399 ?_
                refine V_if_eq X (tgt := 409) (by decide) dL_wins_401 (fun hc401 => ?_) (fun hc401 => absurd hc401 (by decide))
                refine V_aload X rfl dL_wins_409 ?_
                refine V_iload X rfl dL_wins_411 ?_
                refine V_taL X hT 1 (i) (by decide) (by omega) (mixF_e hlt e2) dL_wins_413 ?_
                refine V_icmp_ne X (tgt := 458) (by decide) dL_wins_414 (fun hc414 => absurd hc414 (fun q => q rfl)) (fun hc414 => ?_)
                refine V_aload_n X rfl dL_wins_417 ?_
                refine V_iload X rfl dL_wins_418 ?_
                refine V_callVp X (rest := _) (c_X5_level_t _ _ _ al _ z hR i hlt) (hR.2.1 (15, 0) dm15) rfl gL_wins_X5_level rfl hdv_X5_level (Nat.le_of_ble_eq_true rfl) (Nat.le_of_ble_eq_true rfl) rfl (Nat.le_of_ble_eq_true rfl) dL_wins_420 ?_
                refine V.top (y := ar 4 i) (hg3n ) ?_
                refine V_iload X rfl dL_wins_423 ?_
                refine V_if_eq X (tgt := 446) (by decide) dL_wins_425 (fun hc425 => ?_) (fun hc425 => absurd hc425 (by decide))
                refine V_aload X rfl dL_wins_446 ?_
                refine V_iload X rfl dL_wins_448 ?_
                refine V_taL X hT 2 (i) (by decide) (by omega) (mixF_e hlt e4) dL_wins_450 ?_
                refine V_icmp_ne X (tgt := 458) (by decide) dL_wins_451 (fun hc451 => absurd hc451 (fun q => q rfl)) (fun hc451 => ?_)
                refine V_iconst X (v := 1) (by decide) dL_wins_454 ?_
                refine V_goto X (tgt := 459) (by decide) dL_wins_455 ?_
                refine V_istore X (lv' := [(13, _), (20, _), (19, _), (18, _), (17, _), (16, _), (15, _), (0, _), (1, _), (2, _), (3, _), (4, _), (5, _), (6, _), (7, _), (8, _), (9, _), (10, _), (11, _), (12, _), (14, _)]) (by decide) rfl dL_wins_459 ?_
                refine V_iinc X (lv' := [(14, _), (13, _), (20, _), (19, _), (18, _), (17, _), (16, _), (15, _), (0, _), (1, _), (2, _), (3, _), (4, _), (5, _), (6, _), (7, _), (8, _), (9, _), (10, _), (11, _), (12, _)]) (v := nI (i + 1)) rfl (nI_1 _) (by decide) rfl dL_wins_461 ?_
                refine V_goto X (tgt := 189) (by decide) dL_wins_464 ?_
                refine V.lvs (lv' := [(0, _), (1, _), (2, _), (3, _), (4, _), (5, _), (6, _), (7, _), (8, _), (9, _), (10, _), (11, _), (12, _), (13, _), (14, _)]) rfl ?_
                exact ih (zN z 0 - (i + 1)) (by omega) (i + 1) rfl (by omega)
              · refine V_aload X rfl dL_wins_348 ?_
                refine V_iload X rfl dL_wins_350 ?_
                refine V_taL X hT 1 (i) (by decide) (by omega) (mixF_e hlt e2) dL_wins_352 ?_
                refine V_bipush X (v := 9) (by decide) dL_wins_353 ?_
                refine V_imul X dL_wins_355 ?_
                refine V_bipush X (v := 10) (by decide) dL_wins_356 ?_
                refine V_idiv X (by decide) dL_wins_358 ?_
                refine V_bipush X (v := 50) (by decide) dL_wins_359 ?_
                refine V_icmp_ge X (tgt := 369) (by decide) dL_wins_361 (fun hc361 => ?_) (fun hc361 => ?_)
                · refine V_aload X rfl dL_wins_369 ?_
                  refine V_iload X rfl dL_wins_371 ?_
                  refine V_taL X hT 1 (i) (by decide) (by omega) (mixF_e hlt e2) dL_wins_373 ?_
                  refine V_bipush X (v := 9) (by decide) dL_wins_374 ?_
                  refine V_imul X dL_wins_376 ?_
                  refine V_bipush X (v := 10) (by decide) dL_wins_377 ?_
                  refine V_idiv X (by decide) dL_wins_379 ?_
                  exact hj380 _ ((by unfold nuI; rw [if_pos hc361]))
                · refine V_bipush X (v := 50) (by decide) dL_wins_364 ?_
                  refine V_goto X (tgt := 380) (by decide) dL_wins_366 ?_
                  exact hj380 _ ((by unfold nuI; rw [if_neg hc361]))
            · refine V_iload X rfl dL_wins_321 ?_
              refine V_if_ge X (tgt := 330) (by decide) dL_wins_323 (fun hc323 => ?_) (fun hc323 => ?_)
              · refine V_iload X rfl dL_wins_330 ?_
                refine V_sipush X (v := 4000) (by decide) dL_wins_332 ?_
                refine V_icmp_le X (tgt := 344) (by decide) dL_wins_335 (fun hc335 => ?_) (fun hc335 => ?_)
                · refine V_iload X rfl dL_wins_344 ?_
                  exact hj346 _ ((by unfold clI; rw [if_pos hc323, if_pos hc335]))
                · refine V_sipush X (v := 4000) (by decide) dL_wins_338 ?_
                  refine V_goto X (tgt := 346) (by decide) dL_wins_341 ?_
                  exact hj346 _ ((by unfold clI; rw [if_pos hc323, if_neg hc335]))
              · refine V_iconst X (v := 0) (by decide) dL_wins_326 ?_
                refine V_goto X (tgt := 346) (by decide) dL_wins_327 ?_
                exact hj346 _ ((by unfold clI; rw [if_neg (Int32.not_le.mpr (Int32.not_le.mp hc323))]))
          · refine V_iload X rfl dL_wins_198 ?_
            refine V_if_eq X (tgt := 467) (by decide) dL_wins_200 (fun hc200 => absurd hc200 (by decide)) (fun hc200 => ?_)
            refine V_iload X rfl dL_wins_203 ?_
            refine V_if_eq X (tgt := 224) (by decide) dL_wins_205 (fun hc205 => ?_) (fun hc205 => absurd hc205 (by decide))
            refine V_iconst X (v := 0) (by decide) dL_wins_224 ?_
            refine V_istore X (lv' := [(15, _), (0, _), (1, _), (2, _), (3, _), (4, _), (5, _), (6, _), (7, _), (8, _), (9, _), (10, _), (11, _), (12, _), (13, _), (14, _)]) (by decide) rfl dL_wins_225 ?_
            refine V_iload X rfl dL_wins_227 ?_
            refine V_iload X rfl dL_wins_229 ?_
            refine V_callSp X (rest := _) (c_L_has _ _ _ _ _) gL_wins_L_has rfl hds_L_has (Nat.le_of_ble_eq_true rfl) (Nat.le_of_ble_eq_true rfl) rfl (Nat.le_of_ble_eq_true rfl) dL_wins_231 ?_
            refine V.top (y := 0) (by rw [g9, hzz]; rfl) ?_
            refine V_iload_n X rfl dL_wins_234 ?_
            refine V_if_ne X (tgt := 242) (by decide) dL_wins_235 (fun hc235 => absurd hc235 (by decide)) (fun hc235 => ?_)
            refine V_iconst X (v := 1) (by decide) dL_wins_238 ?_
            refine V_goto X (tgt := 243) (by decide) dL_wins_239 ?_
            refine V_icmp_ne X (tgt := 252) (by decide) dL_wins_243 (fun hc243 => ?_) (fun hc243 => absurd hc243 (by decide))
            refine V_iconst X (v := 0) (by decide) dL_wins_252 ?_
            refine V_istore X (lv' := [(16, _), (15, _), (0, _), (1, _), (2, _), (3, _), (4, _), (5, _), (6, _), (7, _), (8, _), (9, _), (10, _), (11, _), (12, _), (13, _), (14, _)]) (by decide) rfl dL_wins_253 ?_
            refine V_aload X rfl dL_wins_255 ?_
            refine V_iload X rfl dL_wins_257 ?_
            refine V_taL X hT 1 (i) (by decide) (by omega) (mixF_e hlt e2) dL_wins_259 ?_
            refine V_iload X rfl dL_wins_260 ?_
            refine V_iload X rfl dL_wins_262 ?_
            refine V_iload X rfl dL_wins_264 ?_
            refine V_callSp X (rest := _) (c_L_has _ _ _ _ _) gL_wins_L_has rfl hds_L_has (Nat.le_of_ble_eq_true rfl) (Nat.le_of_ble_eq_true rfl) rfl (Nat.le_of_ble_eq_true rfl) dL_wins_266 ?_
            refine V.top (y := 0) (by rw [g9, hzz]; rfl) ?_
            refine V_if_eq X (tgt := 277) (by decide) dL_wins_269 (fun hc269 => ?_) (fun hc269 => absurd hc269 (by decide))
            refine V_sipush X (v := 1000) (by decide) dL_wins_277 ?_
            refine V_iload X rfl dL_wins_280 ?_
            refine V_isub X dL_wins_282 ?_
            refine V_isub X dL_wins_283 ?_
            refine V_imul X dL_wins_284 ?_
            refine V.top (y := ar 2 i * (shI (ar 11 (2 * m)) 0 (exI (e0I (zN z 0) m ar)) i)) ((congrArg (ar 2 i * ·) (hsn hzz)).symm) ?_
            refine V_istore X (lv' := [(17, _), (16, _), (15, _), (0, _), (1, _), (2, _), (3, _), (4, _), (5, _), (6, _), (7, _), (8, _), (9, _), (10, _), (11, _), (12, _), (13, _), (14, _)]) (by decide) rfl dL_wins_285 ?_
            refine V_iload X rfl dL_wins_287 ?_
            refine V_ldc X (v := 8000000) (by decide +kernel) dL_wins_289 ?_
            refine V_iadd X dL_wins_291 ?_
            refine V_sipush X (v := 8000) (by decide) dL_wins_292 ?_
            refine V_idiv X (by decide) dL_wins_295 ?_
            refine V_sipush X (v := 1000) (by decide) dL_wins_296 ?_
            refine V_isub X dL_wins_299 ?_
            refine V.top (y := downI (ar 2 i * (shI (ar 11 (2 * m)) 0 (exI (e0I (zN z 0) m ar)) i)) 8000) ((downI_8000 hbd.1 hbd.2).symm) ?_
            refine V_istore X (lv' := [(18, _), (17, _), (16, _), (15, _), (0, _), (1, _), (2, _), (3, _), (4, _), (5, _), (6, _), (7, _), (8, _), (9, _), (10, _), (11, _), (12, _), (13, _), (14, _)]) (by decide) rfl dL_wins_300 ?_
            refine V_aload X rfl dL_wins_302 ?_
            refine V_iload X rfl dL_wins_304 ?_
            refine V_taL X hT 0 (i) (by decide) (by omega) (mixF_e hlt e1) dL_wins_306 ?_
            refine V_iload X rfl dL_wins_307 ?_
            refine V_if_eq X (tgt := 317) (by decide) dL_wins_309 (fun hc309 => ?_) (fun hc309 => absurd hc309 (by decide))
            refine V_iconst X (v := 0) (by decide) dL_wins_317 ?_
            refine V_iadd X dL_wins_318 ?_
            refine V.top (y := ar 1 i) (Int32.add_zero _) ?_
            refine V_istore X (lv' := [(19, _), (18, _), (17, _), (16, _), (15, _), (0, _), (1, _), (2, _), (3, _), (4, _), (5, _), (6, _), (7, _), (8, _), (9, _), (10, _), (11, _), (12, _), (13, _), (14, _)]) (by decide) rfl dL_wins_319 ?_
            refine V.join (P := fun v9 => v9 = clI (ar 1 i)) 346 (fun w346 hw346 => ?_) (fun hj346 => ?_)
            · subst hw346
              refine V_istore X (lv' := [(19, _), (18, _), (17, _), (16, _), (15, _), (0, _), (1, _), (2, _), (3, _), (4, _), (5, _), (6, _), (7, _), (8, _), (9, _), (10, _), (11, _), (12, _), (13, _), (14, _)]) (by decide) rfl dL_wins_346 ?_
              refine V.join (P := fun v9 => v9 = nuI (ar 2 i)) 380 (fun w380 hw380 => ?_) (fun hj380 => ?_)
              · subst hw380
                refine V_istore X (lv' := [(20, _), (19, _), (18, _), (17, _), (16, _), (15, _), (0, _), (1, _), (2, _), (3, _), (4, _), (5, _), (6, _), (7, _), (8, _), (9, _), (10, _), (11, _), (12, _), (13, _), (14, _)]) (by decide) rfl dL_wins_380 ?_
                refine V_aload_n X rfl dL_wins_382 ?_
                refine V_iload X rfl dL_wins_383 ?_
                refine V_callVp X (rest := _) (c_X5_rating_t _ _ _ al _ z hR i hlt) (hR.2.1 (15, 0) dm15) rfl gL_wins_X5_rating rfl hdv_X5_rating (Nat.le_of_ble_eq_true rfl) (Nat.le_of_ble_eq_true rfl) rfl (Nat.le_of_ble_eq_true rfl) dL_wins_385 ?_
                refine V.top (y := clI (ar 1 i)) ((hg1n ).trans (by rw [hR2, clI_id hR1])) ?_
                refine V_iload X rfl dL_wins_388 ?_
                refine V_icmp_ne X (tgt := 458) (by decide) dL_wins_390 (fun hc390 => absurd hc390 (fun q => q rfl)) (fun hc390 => ?_)
                refine V_aload_n X rfl dL_wins_393 ?_
                refine V_iload X rfl dL_wins_394 ?_
                refine V_callVp X (rest := _) (c_X5_uncertainty_t _ _ _ al _ z hR i hlt) (hR.2.1 (15, 0) dm15) rfl gL_wins_X5_uncertainty rfl hdv_X5_uncertainty (Nat.le_of_ble_eq_true rfl) (Nat.le_of_ble_eq_true rfl) rfl (Nat.le_of_ble_eq_true rfl) dL_wins_396 ?_
                refine V.top (y := ar 2 i) (hg2n ) ?_
                refine V_iload X rfl dL_wins_399 ?_
                refine V_if_eq X (tgt := 409) (by decide) dL_wins_401 (fun hc401 => ?_) (fun hc401 => absurd hc401 (by decide))
                refine V_aload X rfl dL_wins_409 ?_
                refine V_iload X rfl dL_wins_411 ?_
                refine V_taL X hT 1 (i) (by decide) (by omega) (mixF_e hlt e2) dL_wins_413 ?_
                refine V_icmp_ne X (tgt := 458) (by decide) dL_wins_414 (fun hc414 => absurd hc414 (fun q => q rfl)) (fun hc414 => ?_)
                refine V_aload_n X rfl dL_wins_417 ?_
                refine V_iload X rfl dL_wins_418 ?_
                refine V_callVp X (rest := _) (c_X5_level_t _ _ _ al _ z hR i hlt) (hR.2.1 (15, 0) dm15) rfl gL_wins_X5_level rfl hdv_X5_level (Nat.le_of_ble_eq_true rfl) (Nat.le_of_ble_eq_true rfl) rfl (Nat.le_of_ble_eq_true rfl) dL_wins_420 ?_
                refine V.top (y := ar 4 i) (hg3n ) ?_
                refine V_iload X rfl dL_wins_423 ?_
                refine V_if_eq X (tgt := 446) (by decide) dL_wins_425 (fun hc425 => ?_) (fun hc425 => absurd hc425 (by decide))
                refine V_aload X rfl dL_wins_446 ?_
                refine V_iload X rfl dL_wins_448 ?_
                refine V_taL X hT 2 (i) (by decide) (by omega) (mixF_e hlt e4) dL_wins_450 ?_
                refine V_icmp_ne X (tgt := 458) (by decide) dL_wins_451 (fun hc451 => absurd hc451 (fun q => q rfl)) (fun hc451 => ?_)
                refine V_iconst X (v := 1) (by decide) dL_wins_454 ?_
                refine V_goto X (tgt := 459) (by decide) dL_wins_455 ?_
                refine V_istore X (lv' := [(13, _), (20, _), (19, _), (18, _), (17, _), (16, _), (15, _), (0, _), (1, _), (2, _), (3, _), (4, _), (5, _), (6, _), (7, _), (8, _), (9, _), (10, _), (11, _), (12, _), (14, _)]) (by decide) rfl dL_wins_459 ?_
                refine V_iinc X (lv' := [(14, _), (13, _), (20, _), (19, _), (18, _), (17, _), (16, _), (15, _), (0, _), (1, _), (2, _), (3, _), (4, _), (5, _), (6, _), (7, _), (8, _), (9, _), (10, _), (11, _), (12, _)]) (v := nI (i + 1)) rfl (nI_1 _) (by decide) rfl dL_wins_461 ?_
                refine V_goto X (tgt := 189) (by decide) dL_wins_464 ?_
                refine V.lvs (lv' := [(0, _), (1, _), (2, _), (3, _), (4, _), (5, _), (6, _), (7, _), (8, _), (9, _), (10, _), (11, _), (12, _), (13, _), (14, _)]) rfl ?_
                exact ih (zN z 0 - (i + 1)) (by omega) (i + 1) rfl (by omega)
              · refine V_aload X rfl dL_wins_348 ?_
                refine V_iload X rfl dL_wins_350 ?_
                refine V_taL X hT 1 (i) (by decide) (by omega) (mixF_e hlt e2) dL_wins_352 ?_
                refine V_bipush X (v := 9) (by decide) dL_wins_353 ?_
                refine V_imul X dL_wins_355 ?_
                refine V_bipush X (v := 10) (by decide) dL_wins_356 ?_
                refine V_idiv X (by decide) dL_wins_358 ?_
                refine V_bipush X (v := 50) (by decide) dL_wins_359 ?_
                refine V_icmp_ge X (tgt := 369) (by decide) dL_wins_361 (fun hc361 => ?_) (fun hc361 => ?_)
                · refine V_aload X rfl dL_wins_369 ?_
                  refine V_iload X rfl dL_wins_371 ?_
                  refine V_taL X hT 1 (i) (by decide) (by omega) (mixF_e hlt e2) dL_wins_373 ?_
                  refine V_bipush X (v := 9) (by decide) dL_wins_374 ?_
                  refine V_imul X dL_wins_376 ?_
                  refine V_bipush X (v := 10) (by decide) dL_wins_377 ?_
                  refine V_idiv X (by decide) dL_wins_379 ?_
                  exact hj380 _ ((by unfold nuI; rw [if_pos hc361]))
                · refine V_bipush X (v := 50) (by decide) dL_wins_364 ?_
                  refine V_goto X (tgt := 380) (by decide) dL_wins_366 ?_
                  exact hj380 _ ((by unfold nuI; rw [if_neg hc361]))
            · refine V_iload X rfl dL_wins_321 ?_
              refine V_if_ge X (tgt := 330) (by decide) dL_wins_323 (fun hc323 => ?_) (fun hc323 => ?_)
              · refine V_iload X rfl dL_wins_330 ?_
                refine V_sipush X (v := 4000) (by decide) dL_wins_332 ?_
                refine V_icmp_le X (tgt := 344) (by decide) dL_wins_335 (fun hc335 => ?_) (fun hc335 => ?_)
                · refine V_iload X rfl dL_wins_344 ?_
                  exact hj346 _ ((by unfold clI; rw [if_pos hc323, if_pos hc335]))
                · refine V_sipush X (v := 4000) (by decide) dL_wins_338 ?_
                  refine V_goto X (tgt := 346) (by decide) dL_wins_341 ?_
                  exact hj346 _ ((by unfold clI; rw [if_pos hc323, if_neg hc335]))
              · refine V_iconst X (v := 0) (by decide) dL_wins_326 ?_
                refine V_goto X (tgt := 346) (by decide) dL_wins_327 ?_
                exact hj346 _ ((by unfold clI; rw [if_neg (Int32.not_le.mpr (Int32.not_le.mp hc323))]))
    refine V_istore X (lv' := [(12, _), (0, _), (1, _), (2, _), (3, _), (4, _), (5, _), (6, _), (7, _), (8, _), (9, _), (10, _), (11, _)]) (by decide) rfl dL_wins_161 ?_
    refine V_iload X rfl dL_wins_163 ?_
    refine V_iload X rfl dL_wins_165 ?_
    refine V_if_eq X (tgt := 174) (by decide) dL_wins_167 (fun hc167 => ?_) (fun hc167 => absurd hc167 (by decide))
    refine V_bipush X (v := (-8)) (by decide) dL_wins_174 ?_
    refine V_icmp_ne X (tgt := 183) (by decide) dL_wins_176 (fun hc176 => absurd hc176 (fun q => q rfl)) (fun hc176 => ?_)
    refine V_iconst X (v := 1) (by decide) dL_wins_179 ?_
    refine V_goto X (tgt := 184) (by decide) dL_wins_180 ?_
    refine V_istore X (lv' := [(13, _), (12, _), (0, _), (1, _), (2, _), (3, _), (4, _), (5, _), (6, _), (7, _), (8, _), (9, _), (10, _), (11, _)]) (by decide) rfl dL_wins_184 ?_
    refine V_iconst X (v := 0) (by decide) dL_wins_186 ?_
    refine V_istore X (lv' := [(14, _), (13, _), (12, _), (0, _), (1, _), (2, _), (3, _), (4, _), (5, _), (6, _), (7, _), (8, _), (9, _), (10, _), (11, _)]) (by decide) rfl dL_wins_187 ?_
    refine V.lvs (lv' := [(0, _), (1, _), (2, _), (3, _), (4, _), (5, _), (6, _), (7, _), (8, _), (9, _), (10, _), (11, _), (12, _), (13, _), (14, _)]) rfl ?_
    exact L2 _ 0 rfl (Nat.zero_le _)
  have L1 : ∀ (n i : Nat), zN z 0 - i = n → i ≤ zN z 0 → ∀ f1 : Wo, TA (kG K) 3 B (fun j => mixF i (sr3 fi j) (fun _ => 0)) f1 → FrT f0 f1 → V K f1 1 6 106 [(0, .ref (al (15, 0))), (1, .int (nI m)), (2, .int 0), (3, .ref (A 0)), (4, .ref (A 1)), (5, .ref (A 6)), (6, .ref (B 0)), (7, .ref (B 1)), (8, .ref (B 2)), (9, .int 0), (10, .int (fi 9 m)), (11, .int (exI (e0I (zN z 0) m ar))), (12, .int (nI i))] [] := by
    intro n
    induction n using Nat.strongRecOn with
    | ind n ih =>
      intro i hn hi f1 hT hF
      have hR := hR.keepT hF
      have hA := hA.ft hF
      refine V_iload X rfl dL_wins_106 ?_
      refine V_aload X rfl dL_wins_108 ?_
      refine V_iconst X (v := 1) (by decide) dL_wins_110 ?_
      refine V_ald X hA 6 (1) 4 (by decide) rfl (by omega) (hI.c1) dL_wins_111 ?_
      refine V_icmp_ge X (tgt := 154) (by decide) dL_wins_112 (fun hc112 => ?_) (fun hc112 => ?_)
      · have hiN := lim_ge (N := zN z 0) rfl hc112 hi (by omega)
        rw [hiN] at hT
        refine V.lvs (lv' := [(0, _), (1, _), (2, _), (3, _), (4, _), (5, _), (6, _), (7, _), (8, _), (9, _), (10, _), (11, _)]) rfl ?_
        exact T4 _ hT hF
      · have hlt := lim_lt (N := zN z 0) rfl hc112 hi (by omega)
        refine V_aload X rfl dL_wins_115 ?_
        refine V_iload X rfl dL_wins_117 ?_
        refine V_aload_n X rfl dL_wins_119 ?_
        refine V_iload X rfl dL_wins_120 ?_
        refine V_callVp X (rest := _) (c_X5_rating_t _ _ _ al fi z hR i hlt) (hR.2.1 (15, 0) dm15) rfl gL_wins_X5_rating rfl hdv_X5_rating (Nat.le_of_ble_eq_true rfl) (Nat.le_of_ble_eq_true rfl) rfl (Nat.le_of_ble_eq_true rfl) dL_wins_122 ?_
        refine V_taS X hT 0 (i) (by decide) (by omega) dL_wins_125 (fun f hT hG => ?_)
        have hG1 := hG
        have hR := hR.keepT hG
        have hA := hA.ft hG
        refine V_aload X rfl dL_wins_126 ?_
        refine V_iload X rfl dL_wins_128 ?_
        refine V_aload_n X rfl dL_wins_130 ?_
        refine V_iload X rfl dL_wins_131 ?_
        refine V_callVp X (rest := _) (c_X5_uncertainty_t _ _ _ al fi z hR i hlt) (hR.2.1 (15, 0) dm15) rfl gL_wins_X5_uncertainty rfl hdv_X5_uncertainty (Nat.le_of_ble_eq_true rfl) (Nat.le_of_ble_eq_true rfl) rfl (Nat.le_of_ble_eq_true rfl) dL_wins_133 ?_
        refine V_taS X hT 1 (i) (by decide) (by omega) dL_wins_136 (fun f hT hG => ?_)
        have hG2 := hG
        have hR := hR.keepT hG
        have hA := hA.ft hG
        refine V_aload X rfl dL_wins_137 ?_
        refine V_iload X rfl dL_wins_139 ?_
        refine V_aload_n X rfl dL_wins_141 ?_
        refine V_iload X rfl dL_wins_142 ?_
        refine V_callVp X (rest := _) (c_X5_level_t _ _ _ al fi z hR i hlt) (hR.2.1 (15, 0) dm15) rfl gL_wins_X5_level rfl hdv_X5_level (Nat.le_of_ble_eq_true rfl) (Nat.le_of_ble_eq_true rfl) rfl (Nat.le_of_ble_eq_true rfl) dL_wins_144 ?_
        refine V_taS X hT 2 (i) (by decide) (by omega) dL_wins_147 (fun f hT hG => ?_)
        have hG3 := hG
        have hR := hR.keepT hG
        have hA := hA.ft hG
        refine V_iinc X (lv' := [(12, _), (0, _), (1, _), (2, _), (3, _), (4, _), (5, _), (6, _), (7, _), (8, _), (9, _), (10, _), (11, _)]) (v := nI (i + 1)) rfl (nI_1 _) (by decide) rfl dL_wins_148 ?_
        refine V_goto X (tgt := 106) (by decide) dL_wins_151 ?_
        refine V.lvs (lv' := [(0, _), (1, _), (2, _), (3, _), (4, _), (5, _), (6, _), (7, _), (8, _), (9, _), (10, _), (11, _), (12, _)]) rfl ?_
        exact ih (zN z 0 - (i + 1)) (by omega) (i + 1) rfl (by omega) _ (hT.cg (sr3_step fi i)) (((hF.trans hG1).trans hG2).trans hG3)
  refine V_astore X (lv' := [(8, _), (7, _), (6, _), (0, _), (1, _), (2, _), (3, _), (4, _), (5, _)]) (by decide) rfl dL_wins_16 ?_
  refine V_aload X rfl dL_wins_18 ?_
  refine V_iload_n X rfl dL_wins_20 ?_
  refine V_ald X hA 1 (m) 31 (by decide) rfl (by omega) (u3) dL_wins_21 ?_
  refine V_bipush X (v := 18) (by decide) dL_wins_22 ?_
  refine V_ishr X dL_wins_24 ?_
  refine V_iconst X (v := 3) (by decide) dL_wins_25 ?_
  refine V_iand X dL_wins_26 ?_
  refine V.top (y := nI T) (j_st hU hT4) ?_
  refine V_iconst X (v := 1) (by decide) dL_wins_27 ?_
  refine V_icmp_ne X (tgt := 35) (by decide) dL_wins_28 (fun hc28 => ?_) (fun hc28 => absurd hc28 (fun q => hst (m13.trans (u2.trans q))))
  refine V_iconst X (v := 0) (by decide) dL_wins_35 ?_
  refine V_istore X (lv' := [(9, _), (8, _), (7, _), (6, _), (0, _), (1, _), (2, _), (3, _), (4, _), (5, _)]) (by decide) rfl dL_wins_36 ?_
  refine V_aload_n X rfl dL_wins_38 ?_
  refine V_iload_n X rfl dL_wins_39 ?_
  refine V_iconst X (v := 0) (by decide) dL_wins_40 ?_
  refine V_callVp X (rest := _) (c_X5_team_t _ _ _ al fi z hR m hm 0 (Or.inl rfl)) (hR.2.1 (15, 0) dm15) rfl gL_wins_X5_team rfl hdv_X5_team (Nat.le_of_ble_eq_true rfl) (Nat.le_of_ble_eq_true rfl) rfl (Nat.le_of_ble_eq_true rfl) dL_wins_41 ?_
  refine V.top (y := fi 9 m) (if_pos rfl) ?_
  refine V_istore X (lv' := [(10, _), (9, _), (8, _), (7, _), (6, _), (0, _), (1, _), (2, _), (3, _), (4, _), (5, _)]) (by decide) rfl dL_wins_44 ?_
  refine V_sipush X (v := 500) (by decide) dL_wins_46 ?_
  refine V_aload_n X rfl dL_wins_49 ?_
  refine V_iload X rfl dL_wins_50 ?_
  refine V_callSp X (rest := _) (c_L_sum _ _ _ al fi z hR (fi 9 m) hs0) gL_wins_L_sum rfl hds_L_sum (Nat.le_of_ble_eq_true rfl) (Nat.le_of_ble_eq_true rfl) rfl (Nat.le_of_ble_eq_true rfl) dL_wins_52 ?_
  refine V.top (y := smI (zN z 0) (ar 11 (2 * m)) (ar 1)) (hsm0) ?_
  refine V_iconst X (v := 3) (by decide) dL_wins_55 ?_
  refine V_idiv X (by decide) dL_wins_56 ?_
  refine V_iadd X dL_wins_57 ?_
  refine V_aload_n X rfl dL_wins_58 ?_
  refine V_aload_n X rfl dL_wins_59 ?_
  refine V_iload_n X rfl dL_wins_60 ?_
  refine V_iconst X (v := 1) (by decide) dL_wins_61 ?_
  refine V_callVp X (rest := _) (c_X5_team_t _ _ _ al fi z hR m hm 1 (Or.inr rfl)) (hR.2.1 (15, 0) dm15) rfl gL_wins_X5_team rfl hdv_X5_team (Nat.le_of_ble_eq_true rfl) (Nat.le_of_ble_eq_true rfl) rfl (Nat.le_of_ble_eq_true rfl) dL_wins_62 ?_
  refine V.top (y := fi 10 m) (if_neg (by decide)) ?_
  refine V_callSp X (rest := _) (c_L_sum _ _ _ al fi z hR (fi 10 m) hs1) gL_wins_L_sum rfl hds_L_sum (Nat.le_of_ble_eq_true rfl) (Nat.le_of_ble_eq_true rfl) rfl (Nat.le_of_ble_eq_true rfl) dL_wins_65 ?_
  refine V.top (y := smI (zN z 0) (ar 11 (2 * m + 1)) (ar 1)) (hsm1) ?_
  refine V_iconst X (v := 3) (by decide) dL_wins_68 ?_
  refine V_idiv X (by decide) dL_wins_69 ?_
  refine V_isub X dL_wins_70 ?_
  refine V.top (y := e0I (zN z 0) m ar) (rfl) ?_
  refine V_istore X (lv' := [(11, _), (10, _), (9, _), (8, _), (7, _), (6, _), (0, _), (1, _), (2, _), (3, _), (4, _), (5, _)]) (by decide) rfl dL_wins_71 ?_
  refine V.join (P := fun v9 => v9 = (exI (e0I (zN z 0) m ar))) 101 (fun w101 hw101 => ?_) (fun hj101 => ?_)
  · subst hw101
    refine V_istore X (lv' := [(11, _), (10, _), (9, _), (8, _), (7, _), (6, _), (0, _), (1, _), (2, _), (3, _), (4, _), (5, _)]) (by decide) rfl dL_wins_101 ?_
    refine V_iconst X (v := 0) (by decide) dL_wins_103 ?_
    refine V_istore X (lv' := [(12, _), (11, _), (10, _), (9, _), (8, _), (7, _), (6, _), (0, _), (1, _), (2, _), (3, _), (4, _), (5, _)]) (by decide) rfl dL_wins_104 ?_
    refine V.lvs (lv' := [(0, _), (1, _), (2, _), (3, _), (4, _), (5, _), (6, _), (7, _), (8, _), (9, _), (10, _), (11, _), (12, _)]) rfl ?_
    exact L1 _ 0 rfl (Nat.zero_le _) _ hTT FrT.rf
  · refine V_iload X rfl dL_wins_73 ?_
    refine V_bipush X (v := 50) (by decide) dL_wins_75 ?_
    refine V_icmp_ge X (tgt := 85) (by decide) dL_wins_77 (fun hc77 => ?_) (fun hc77 => ?_)
    · refine V_iload X rfl dL_wins_85 ?_
      refine V_sipush X (v := 950) (by decide) dL_wins_87 ?_
      refine V_icmp_le X (tgt := 99) (by decide) dL_wins_90 (fun hc90 => ?_) (fun hc90 => ?_)
      · refine V_iload X rfl dL_wins_99 ?_
        exact hj101 _ ((by show _ = exI (e0I (zN z 0) m ar); unfold exI; rw [if_pos hc77, if_pos hc90]))
      · refine V_sipush X (v := 950) (by decide) dL_wins_93 ?_
        refine V_goto X (tgt := 101) (by decide) dL_wins_96 ?_
        exact hj101 _ ((by show _ = exI (e0I (zN z 0) m ar); unfold exI; rw [if_pos hc77, if_neg hc90]))
    · refine V_bipush X (v := 50) (by decide) dL_wins_80 ?_
      refine V_goto X (tgt := 101) (by decide) dL_wins_82 ?_
      exact hj101 _ ((by show _ = exI (e0I (zN z 0) m ar); unfold exI; rw [if_neg hc77]))
set_option maxHeartbeats 4000000 in
set_option maxRecDepth 100000 in
theorem c_L_wins_y1 (l : Launch) (hl : l.stackTraces = false) (G : GG) (f : Wo) (al : Tg → Nat) (fi : Nat → Nat → Int32) (z : CZ) (hR : RC G al fi z f) (A : Nat → Nat) (lq : Nat → Int64) (la : Nat → Nat → Int32) (hA : LA G A lq la f) (c : Nat) (sc : Nat → Int32) (ar : Nat → Nat → Int32) (hS : SM c fi z sc ar) (hB : BR ar) (P S Q M : Nat → Nat) (hI : IV c (zN z 0) (zN z 1) (zN z 2) ar lq la P S Q M) (m : Nat) (hm : m < zN z 2) (hst : fi 13 m = 1) : Ct l yL_wins wsL_wins 15 296 G [.ref (al (15, 0)), .int (nI m), .int 1, .ref (A 0), .ref (A 1), .ref (A 6)] f (fun r f' => r = some (.int 1) ∧ LW G A (al (15, 0)) f' c (zN z 0) (zN z 1) (zN z 2)) 4 60 := by
  refine Ct.of (cc := cL_wins) (maxL := 21) (ret := (some .boolean)) (by decide) rfl (Nat.le_of_ble_eq_true rfl) (lv := [(0, _), (1, _), (2, _), (3, _), (4, _), (5, _)]) rfl (by simp [Value.category]) ?_
  intro K X hL hG hr hnm
  subst hL; subst hG
  have h18 := hI.np
  have h60 := hI.nt
  have h30 := hI.nm
  have h2k := hI.cc
  obtain ⟨⟨U, T, hU, hT4, u1, u2, u3⟩, u4, u5, b0, b1, -⟩ := hI.ma hm
  obtain ⟨g9, g10, -, m13, -⟩ := hS.mt hm
  have hs0 : ∀ k, k < 18 → hsI (fi 9 m) (nI k) = true → k < zN z 0 := fun k hk h => Nat.lt_of_not_le fun q => by rw [g9, q_bw_h b0 q (by omega)] at h; cases h
  have hs1 : ∀ k, k < 18 → hsI (fi 10 m) (nI k) = true → k < zN z 0 := fun k hk h => Nat.lt_of_not_le fun q => by rw [g10, q_bw_h b1 q (by omega)] at h; cases h
  have hsm0 : smI 18 (fi 9 m) (fi 1) = smI (zN z 0) (ar 11 (2 * m)) (ar 1) := by rw [g9]; exact sm_np b0 h18 (fun k hk => (hS.pl hk).1)
  have hsm1 : smI 18 (fi 10 m) (fi 1) = smI (zN z 0) (ar 11 (2 * m + 1)) (ar 1) := by rw [g10]; exact sm_np b1 h18 (fun k hk => (hS.pl hk).1)
  have hfin := hS.fin (m := m) (w := 1) (sc' := sc) hm hst (by decide) (fun _ _ => rfl)
  have hBf : BR (finA (zN z 0) (zN z 1) m 1 ar) := hB.of (fun k => by
      rw [fin_4]
      unfold ifF
      split
      · exact Or.inr (Or.inr rfl)
      · exact Or.inl rfl) (fun k => Or.inl rfl)
  have hq0 : ∀ t, t < zN z 1 → M t = m + 1 → Q t = 0 := fun t ht h => by
    have h10 : ar 10 t = nI m := by rw [(hI.pa ht).2.2.2.2, h]; exact nI_pred m
    have h7 : fi 7 t = 2 := by
      by_cases q : fi 7 t = 2
      · exact q
      · rw [hS.2.2.2.2.1.2.1 t ht q] at h10
        have := congrArg Int32.toInt h10
        rw [nI_toInt (by omega), show (-1 : Int32).toInt = -1 from by decide] at this
        omega
    have h1 : ¬ Q t = 1 := fun q => by rw [(SI.q1 hS hI ht).mp q] at h7; exact absurd h7 (by decide)
    have := (hI.ok ht).2.2.1
    omega
  have hpl9 : ∀ k, k < zN z 0 → (∃ R, R ≤ 4000 ∧ finA (zN z 0) (zN z 1) m 1 ar 1 k = nI R) ∧ ∃ D, 50 ≤ D ∧ D ≤ 350 ∧ finA (zN z 0) (zN z 1) m 1 ar 2 k = nI D := fun k hk => by
    obtain ⟨-, -, h3, D, d1, d2, d3⟩ := hI.pl hk
    constructor
    · rw [fin_1]
      unfold ifF
      split
      · exact clI_bd _
      · exact h3
    · rw [fin_2]
      unfold ifF
      split
      · show ∃ E, 50 ≤ E ∧ E ≤ 350 ∧ nuI (ar 2 k) = nI E
        rw [d3]; exact nuI_bd d1 d2
      · exact ⟨D, d1, d2, d3⟩
  refine V_bipush X (v := 18) (by decide) dL_wins_0 ?_
  refine V_newT X (kc' := 3) (ks' := 42) (N := 18) (42, 0) (by decide +kernel) (by decide) (by decide) (by decide) (by omega) (by omega) dL_wins_2 (fun q0 f2 hN0 hT0 => ?_)
  refine V_astore X (lv' := [(6, _), (0, _), (1, _), (2, _), (3, _), (4, _), (5, _)]) (by decide) rfl dL_wins_4 ?_
  refine V_bipush X (v := 18) (by decide) dL_wins_6 ?_
  refine V_newT X (kc' := 2) (ks' := 24) (N := 18) (42, 1) (by decide +kernel) (by decide) (by decide) (by decide) (by omega) (by omega) dL_wins_8 (fun q1 f3 hN1 hT1 => ?_)
  refine V_astore X (lv' := [(7, _), (6, _), (0, _), (1, _), (2, _), (3, _), (4, _), (5, _)]) (by decide) rfl dL_wins_10 ?_
  refine V_bipush X (v := 18) (by decide) dL_wins_12 ?_
  refine V_newT X (kc' := 1) (ks' := 6) (N := 18) (42, 2) (by decide +kernel) (by decide) (by decide) (by decide) (by omega) (by omega) dL_wins_14 (fun q2 f0 hN2 hT2 => ?_)
  have hNN : FrN f f0 := (hN0.trans hN1).trans hN2
  have hR := hR.keepA hNN.a
  have hA := hA.fr hNN.c
  obtain ⟨B, hB0, hB1, hB2⟩ : ∃ B : Nat → Nat, B 0 = q0 ∧ B 1 = q1 ∧ B 2 = q2 := ⟨fun j => if j = 0 then q0 else if j = 1 then q1 else q2, rfl, rfl, rfl⟩
  have hTT : TA (kG K) 3 B (fun j => mixF 0 (sr3 fi j) (fun _ => 0)) f0 := fun j hj => by
      show f0 (B j) = some ((42, j), oI (kG K) 18 (mixF 0 (sr3 fi j) (fun _ => 0)))
      rw [mixF_0]
      rcases (show j = 0 ∨ j = 1 ∨ j = 2 by omega) with h | h | h
      · subst h; rw [hB0]; exact hN2 _ _ (hN1 _ _ hT0)
      · subst h; rw [hB1]; exact hN2 _ _ hT1
      · subst h; rw [hB2]; exact hT2
  clear hNN hN0 hN1 hN2 hT0 hT1 hT2
  rw [← hB0, ← hB1, ← hB2]
  have T4 : ∀ f1 : Wo, TA (kG K) 3 B (fun j => mixF (zN z 0) (sr3 fi j) (fun _ => 0)) f1 → FrT f0 f1 → V K f1 1 6 154 [(0, .ref (al (15, 0))), (1, .int (nI m)), (2, .int 1), (3, .ref (A 0)), (4, .ref (A 1)), (5, .ref (A 6)), (6, .ref (B 0)), (7, .ref (B 1)), (8, .ref (B 2)), (9, .int 1), (10, .int (fi 9 m)), (11, .int (exI (e0I (zN z 0) m ar)))] [] := by
    intro f1 hT hF
    have hR := hR.keepT hF
    have hA := hA.ft hF
    refine V_aload_n X rfl dL_wins_154 ?_
    refine V_iconst X (v := 4) (by decide) dL_wins_155 ?_
    refine V_iload_n X rfl dL_wins_156 ?_
    refine V_iload_n X rfl dL_wins_157 ?_
    refine V_callSH (kc' := 0) (ks' := 0) X (rest := _) (c_L_asks_f _ _ _ al fi z hR m hm 1 (by decide) hst) gL_wins_L_asks rfl hds_L_asks (Nat.le_of_ble_eq_true rfl) (Nat.le_of_ble_eq_true rfl) rfl (Nat.le_of_ble_eq_true rfl) (by omega) (by omega) dL_wins_158 (fun r9 f9 h9 => ?_)
    obtain ⟨rfl, hR, hF9⟩ := h9
    have hA := hA.fr hF9
    have hT := hT.fc hF9
    have L3 : ∀ (n i : Nat), zN z 1 - i = n → i ≤ zN z 1 → ∀ f2 : Wo, LA (kG K) A (mixF i (fiQ m P S M lq) lq) (fu la 1 m ((la 1 m &&& 262143) ||| 786432)) f2 → FrA f9 f2 → V K f2 0 0 489 [(0, .ref (al (15, 0))), (1, .int (nI m)), (2, .int 1), (3, .ref (A 0)), (4, .ref (A 1)), (5, .ref (A 6)), (6, .ref (B 0)), (7, .ref (B 1)), (8, .ref (B 2)), (9, .int 1), (10, .int (fi 9 m)), (11, .int (exI (e0I (zN z 0) m ar))), (12, .int 0), (13, .int 1), (14, .int (nI i))] [] := by
      intro n
      induction n using Nat.strongRecOn with
      | ind n ih =>
        intro i hn hi f2 hA hF
        refine V_iload X rfl dL_wins_489 ?_
        refine V_aload X rfl dL_wins_491 ?_
        refine V_iconst X (v := 2) (by decide) dL_wins_493 ?_
        refine V_ald X hA 6 (2) 4 (by decide) rfl (by omega) ((fu_ne _ _ (Or.inl (by decide))).trans hI.c2) dL_wins_494 ?_
        refine V_icmp_ge X (tgt := 538) (by decide) dL_wins_495 (fun hc495 => ?_) (fun hc495 => ?_)
        · have hiN := lim_ge (N := zN z 1) rfl hc495 hi (by omega)
          rw [hiN] at hA
          refine V_iload X rfl dL_wins_538 ?_
          exact V_zret X hr (by decide) (⟨rfl, al, _, z, sc, (finA (zN z 0) (zN z 1) m 1 ar), _, _, P, S, Q, _, rfl, hR.keepA hF, hA, hfin, hBf, rfl, rfl, rfl, hI.fin hm hq0 rfl rfl hpl9 (fun j j1 j2 j4 j5 j10 j15 => by unfold finA; rw [if_neg j1, if_neg j2, if_neg j4, if_neg j10, if_neg j5, if_neg j15])⟩) dL_wins_540
        · have hlt := lim_lt (N := zN z 1) rfl hc495 hi (by omega)
          obtain ⟨hok, hqi⟩ := hI.2.1 i hlt
          have hqi2 : mixF i (fiQ m P S M lq) lq i = lN (eN (P i) (S i) (Q i) (M i)) := (mixF_i _ _ _).trans hqi
          refine V_aload_n X rfl dL_wins_498 ?_
          refine V_iload X rfl dL_wins_499 ?_
          refine V_aload_n X rfl dL_wins_501 ?_
          refine V_iload X rfl dL_wins_502 ?_
          refine V_qld X hA (i) (by omega) (hqi2) dL_wins_504 ?_
          refine V_bipush X (v := 41) (by decide) dL_wins_505 ?_
          refine V_lshr X dL_wins_507 ?_
          refine V.topl (y := lN (M i)) (j_ma hok) ?_
          refine V_iload_n X rfl dL_wins_508 ?_
          refine V_i2l X dL_wins_509 ?_
          refine V.topl (y := lN m) (nI_l (by omega)) ?_
          refine V_lconst X (v := 1) (by decide) dL_wins_510 ?_
          refine V_ladd X dL_wins_511 ?_
          refine V.topl (y := lN (m + 1)) (lN_1 m) ?_
          refine V_lcmp X dL_wins_512 ?_
          refine V_if_ne X (tgt := 527) (by decide) dL_wins_513 (fun hc513 => ?_) (fun hc513 => ?_)
          · refine V_aload_n X rfl dL_wins_527 ?_
            refine V_iload X rfl dL_wins_528 ?_
            refine V_qld X hA (i) (by omega) (hqi2) dL_wins_530 ?_
            refine V_qst X hA (i) (by omega) dL_wins_531 (fun f hA hFA => ?_)
            refine V_iinc X (lv' := [(14, _), (0, _), (1, _), (2, _), (3, _), (4, _), (5, _), (6, _), (7, _), (8, _), (9, _), (10, _), (11, _), (12, _), (13, _)]) (v := nI (i + 1)) rfl (nI_1 _) (by decide) rfl dL_wins_532 ?_
            refine V_goto X (tgt := 489) (by decide) dL_wins_535 ?_
            refine V.lvs (lv' := [(0, _), (1, _), (2, _), (3, _), (4, _), (5, _), (6, _), (7, _), (8, _), (9, _), (10, _), (11, _), (12, _), (13, _), (14, _)]) rfl ?_
            have hM9 : ¬ M i = m + 1 := fun q => hc513 ((lg_cmp_eq _ _).mpr (by rw [q]))
            rw [mixF_up (show _ = fiQ m P S M lq i from by rw [← hqi]; exact (if_neg hM9).symm)] at hA
            exact ih (zN z 1 - (i + 1)) (by omega) (i + 1) rfl (by omega) f hA (hF.trans hFA)
          · refine V_aload_n X rfl dL_wins_516 ?_
            refine V_iload X rfl dL_wins_517 ?_
            refine V_qld X hA (i) (by omega) (hqi2) dL_wins_519 ?_
            refine V_ldc2 X (v := 1099511627775) (by decide +kernel) dL_wins_520 ?_
            refine V_land X dL_wins_523 ?_
            refine V.topl (y := lN (eN (P i) (S i) 0 0)) (j_lo hok) ?_
            refine V_goto X (tgt := 531) (by decide) dL_wins_524 ?_
            refine V_qst X hA (i) (by omega) dL_wins_531 (fun f hA hFA => ?_)
            refine V_iinc X (lv' := [(14, _), (0, _), (1, _), (2, _), (3, _), (4, _), (5, _), (6, _), (7, _), (8, _), (9, _), (10, _), (11, _), (12, _), (13, _)]) (v := nI (i + 1)) rfl (nI_1 _) (by decide) rfl dL_wins_532 ?_
            refine V_goto X (tgt := 489) (by decide) dL_wins_535 ?_
            refine V.lvs (lv' := [(0, _), (1, _), (2, _), (3, _), (4, _), (5, _), (6, _), (7, _), (8, _), (9, _), (10, _), (11, _), (12, _), (13, _), (14, _)]) rfl ?_
            have hM9 : M i = m + 1 := (pk_lEQ (by have := hok.2.2.2; omega) (by omega)).mp ((lg_cmp_eq _ _).mp hc513)
            rw [mixF_up (show _ = fiQ m P S M lq i from (if_pos hM9).symm)] at hA
            exact ih (zN z 1 - (i + 1)) (by omega) (i + 1) rfl (by omega) f hA (hF.trans hFA)
    have T5 : V K f9 0 0 467 [(0, .ref (al (15, 0))), (1, .int (nI m)), (2, .int 1), (3, .ref (A 0)), (4, .ref (A 1)), (5, .ref (A 6)), (6, .ref (B 0)), (7, .ref (B 1)), (8, .ref (B 2)), (9, .int 1), (10, .int (fi 9 m)), (11, .int (exI (e0I (zN z 0) m ar))), (12, .int 0), (13, .int 1)] [] := by
      refine V_iload X rfl dL_wins_467 ?_
      refine V_if_eq X (tgt := 538) (by decide) dL_wins_469 (fun hc469 => absurd hc469 (by decide)) (fun hc469 => ?_)
      refine V_aload X rfl dL_wins_472 ?_
      refine V_iload_n X rfl dL_wins_474 ?_
      refine V_aload X rfl dL_wins_475 ?_
      refine V_iload_n X rfl dL_wins_477 ?_
      refine V_ald X hA 1 (m) 31 (by decide) rfl (by omega) (rfl) dL_wins_478 ?_
      refine V_ldc X (v := 262143) (by decide +kernel) dL_wins_479 ?_
      refine V_iand X dL_wins_481 ?_
      refine V_ldc X (v := 786432) (by decide +kernel) dL_wins_482 ?_
      refine V_ior X dL_wins_484 ?_
      refine V_ast X hA 1 (m) 31 (by decide) rfl (by omega) dL_wins_485 (fun f hA hFA => ?_)
      refine V_iconst X (v := 0) (by decide) dL_wins_486 ?_
      refine V_istore X (lv' := [(14, _), (0, _), (1, _), (2, _), (3, _), (4, _), (5, _), (6, _), (7, _), (8, _), (9, _), (10, _), (11, _), (12, _), (13, _)]) (by decide) rfl dL_wins_487 ?_
      refine V.lvs (lv' := [(0, _), (1, _), (2, _), (3, _), (4, _), (5, _), (6, _), (7, _), (8, _), (9, _), (10, _), (11, _), (12, _), (13, _), (14, _)]) rfl ?_
      exact L3 _ 0 rfl (Nat.zero_le _) _ (by rw [mixF_0]; exact hA) hFA
    have L2 : ∀ (n i : Nat), zN z 0 - i = n → i ≤ zN z 0 → V K f9 0 0 189 [(0, .ref (al (15, 0))), (1, .int (nI m)), (2, .int 1), (3, .ref (A 0)), (4, .ref (A 1)), (5, .ref (A 6)), (6, .ref (B 0)), (7, .ref (B 1)), (8, .ref (B 2)), (9, .int 1), (10, .int (fi 9 m)), (11, .int (exI (e0I (zN z 0) m ar))), (12, .int 0), (13, .int 1), (14, .int (nI i))] [] := by
      intro n
      induction n using Nat.strongRecOn with
      | ind n ih =>
        intro i hn hi
        refine V_iload X rfl dL_wins_189 ?_
        refine V_aload X rfl dL_wins_191 ?_
        refine V_iconst X (v := 1) (by decide) dL_wins_193 ?_
        refine V_ald X hA 6 (1) 4 (by decide) rfl (by omega) (hI.c1) dL_wins_194 ?_
        refine V_icmp_ge X (tgt := 467) (by decide) dL_wins_195 (fun hc195 => ?_) (fun hc195 => ?_)
        · refine V.lvs (lv' := [(0, _), (1, _), (2, _), (3, _), (4, _), (5, _), (6, _), (7, _), (8, _), (9, _), (10, _), (11, _), (12, _), (13, _)]) rfl ?_
          exact T5
        · have hlt := lim_lt (N := zN z 0) rfl hc195 hi (by omega)
          obtain ⟨e1, e2, e3, e4, e6, e5, ⟨v, hv5, hv⟩, -⟩ := hS.pl hlt
          obtain ⟨-, -, ⟨R, hR1, hR2⟩, D, hD1, hD2, hD3⟩ := hI.pl hlt
          have hbd : -400000 ≤ (ar 2 i * (shI (ar 11 (2 * m)) 1 (exI (e0I (zN z 0) m ar)) i)).toInt ∧ (ar 2 i * (shI (ar 11 (2 * m)) 1 (exI (e0I (zN z 0) m ar)) i)).toInt ≤ 400000 := by rw [hD3]; exact sh_bd hD2 (shI_bd _ _ _ _).1 (shI_bd _ _ _ _).2
          have hsz : hsI (ar 11 (2 * m)) (nI i) = true → (shI (ar 11 (2 * m)) 1 (exI (e0I (zN z 0) m ar)) i) = 0 - (exI (e0I (zN z 0) m ar)) := fun q => by unfold shI tmI; rw [q]; rfl
          have hsn : hsI (ar 11 (2 * m)) (nI i) = false → (shI (ar 11 (2 * m)) 1 (exI (e0I (zN z 0) m ar)) i) = 1000 - (1000 - (exI (e0I (zN z 0) m ar))) := fun q => by unfold shI tmI; rw [q]; rfl
          have hu1 : hsI (la 1 m) (nI i) = hsI (allI (ar 11) m) (nI i) := by have h9 := hsI_aw u3 u1 hU hT4 0 (k := i) (by omega); rwa [and_m1, and_m1] at h9
          have hcs : (hsI (allI (ar 11) m) (nI i) = true ∧ hsI (ar 11 (2 * m)) (nI i) = true) ∨ (hsI (allI (ar 11) m) (nI i) = true ∧ hsI (ar 11 (2 * m)) (nI i) = false) ∨ (hsI (allI (ar 11) m) (nI i) = false ∧ hsI (ar 11 (2 * m)) (nI i) = true) ∨ (hsI (allI (ar 11) m) (nI i) = false ∧ hsI (ar 11 (2 * m)) (nI i) = false) := by cases hsI (allI (ar 11) m) (nI i) <;> cases hsI (ar 11 (2 * m)) (nI i) <;> simp
          have hg := hfin.pl hlt
          have hg1i : hsI (allI (ar 11) m) (nI i) = true → (fnF fi z m 1) 1 i = clI (ar 1 i + downI (ar 2 i * (shI (ar 11 (2 * m)) 1 (exI (e0I (zN z 0) m ar)) i)) 8000) := fun q => hg.1.trans (by rw [fin_1]; unfold ifF; rw [if_pos ⟨hlt, q⟩]; rfl)
          have hg1n : hsI (allI (ar 11) m) (nI i) = false → (fnF fi z m 1) 1 i = ar 1 i := fun q => hg.1.trans (by rw [fin_1]; unfold ifF; rw [if_neg (fun r => absurd (show hsI (allI (ar 11) m) (nI i) = true from r.2) (by rw [q]; decide))])
          have hg2i : hsI (allI (ar 11) m) (nI i) = true → (fnF fi z m 1) 2 i = nuI (ar 2 i) := fun q => hg.2.1.trans (by rw [fin_2]; unfold ifF; rw [if_pos ⟨hlt, q⟩])
          have hg2n : hsI (allI (ar 11) m) (nI i) = false → (fnF fi z m 1) 2 i = ar 2 i := fun q => hg.2.1.trans (by rw [fin_2]; unfold ifF; rw [if_neg (fun r => absurd (show hsI (allI (ar 11) m) (nI i) = true from r.2) (by rw [q]; decide))])
          have hg3i : hsI (allI (ar 11) m) (nI i) = true → (fnF fi z m 1) 3 i = nlI (ar 4 i) := fun q => hg.2.2.2.1.trans (by rw [fin_4]; unfold ifF; rw [if_pos ⟨hlt, q⟩])
          have hg3n : hsI (allI (ar 11) m) (nI i) = false → (fnF fi z m 1) 3 i = ar 4 i := fun q => hg.2.2.2.1.trans (by rw [fin_4]; unfold ifF; rw [if_neg (fun r => absurd (show hsI (allI (ar 11) m) (nI i) = true from r.2) (by rw [q]; decide))])
          rcases hcs with ⟨hin, hzz⟩ | ⟨hin, hzz⟩ | ⟨hin, hzz⟩ | ⟨hin, hzz⟩
          · refine V_iload X rfl dL_wins_198 ?_
            refine V_if_eq X (tgt := 467) (by decide) dL_wins_200 (fun hc200 => absurd hc200 (by decide)) (fun hc200 => ?_)
            refine V_iload X rfl dL_wins_203 ?_
            refine V_if_eq X (tgt := 224) (by decide) dL_wins_205 (fun hc205 => absurd hc205 (by decide)) (fun hc205 => ?_)
            refine V_aload X rfl dL_wins_208 ?_
            refine V_iload_n X rfl dL_wins_210 ?_
            refine V_ald X hA 1 (m) 31 (by decide) rfl (by omega) (rfl) dL_wins_211 ?_
            refine V_iload X rfl dL_wins_212 ?_
            refine V_callSp X (rest := _) (c_L_has _ _ _ _ _) gL_wins_L_has rfl hds_L_has (Nat.le_of_ble_eq_true rfl) (Nat.le_of_ble_eq_true rfl) rfl (Nat.le_of_ble_eq_true rfl) dL_wins_214 ?_
            refine V.top (y := 1) (by rw [hu1, hin]; rfl) ?_
            refine V_if_eq X (tgt := 224) (by decide) dL_wins_217 (fun hc217 => absurd hc217 (by decide)) (fun hc217 => ?_)
            refine V_iconst X (v := 1) (by decide) dL_wins_220 ?_
            refine V_goto X (tgt := 225) (by decide) dL_wins_221 ?_
            refine V_istore X (lv' := [(15, _), (0, _), (1, _), (2, _), (3, _), (4, _), (5, _), (6, _), (7, _), (8, _), (9, _), (10, _), (11, _), (12, _), (13, _), (14, _)]) (by decide) rfl dL_wins_225 ?_
            refine V_iload X rfl dL_wins_227 ?_
            refine V_iload X rfl dL_wins_229 ?_
            refine V_callSp X (rest := _) (c_L_has _ _ _ _ _) gL_wins_L_has rfl hds_L_has (Nat.le_of_ble_eq_true rfl) (Nat.le_of_ble_eq_true rfl) rfl (Nat.le_of_ble_eq_true rfl) dL_wins_231 ?_
            refine V.top (y := 1) (by rw [g9, hzz]; rfl) ?_
            refine V_iload_n X rfl dL_wins_234 ?_
            refine V_if_ne X (tgt := 242) (by decide) dL_wins_235 (fun hc235 => ?_) (fun hc235 => absurd hc235 (by decide))
            refine V_iconst X (v := 0) (by decide) dL_wins_242 ?_
            refine V_icmp_ne X (tgt := 252) (by decide) dL_wins_243 (fun hc243 => ?_) (fun hc243 => absurd hc243 (by decide))
            refine V_iconst X (v := 0) (by decide) dL_wins_252 ?_
            refine V_istore X (lv' := [(16, _), (15, _), (0, _), (1, _), (2, _), (3, _), (4, _), (5, _), (6, _), (7, _), (8, _), (9, _), (10, _), (11, _), (12, _), (13, _), (14, _)]) (by decide) rfl dL_wins_253 ?_
            refine V_aload X rfl dL_wins_255 ?_
            refine V_iload X rfl dL_wins_257 ?_
            refine V_taL X hT 1 (i) (by decide) (by omega) (mixF_e hlt e2) dL_wins_259 ?_
            refine V_iload X rfl dL_wins_260 ?_
            refine V_iload X rfl dL_wins_262 ?_
            refine V_iload X rfl dL_wins_264 ?_
            refine V_callSp X (rest := _) (c_L_has _ _ _ _ _) gL_wins_L_has rfl hds_L_has (Nat.le_of_ble_eq_true rfl) (Nat.le_of_ble_eq_true rfl) rfl (Nat.le_of_ble_eq_true rfl) dL_wins_266 ?_
            refine V.top (y := 1) (by rw [g9, hzz]; rfl) ?_
            refine V_if_eq X (tgt := 277) (by decide) dL_wins_269 (fun hc269 => absurd hc269 (by decide)) (fun hc269 => ?_)
            refine V_iload X rfl dL_wins_272 ?_
            refine V_goto X (tgt := 283) (by decide) dL_wins_274 ?_
            refine V_isub X dL_wins_283 ?_
            refine V_imul X dL_wins_284 ?_
            refine V.top (y := ar 2 i * (shI (ar 11 (2 * m)) 1 (exI (e0I (zN z 0) m ar)) i)) ((congrArg (ar 2 i * ·) (hsz hzz)).symm) ?_
            refine V_istore X (lv' := [(17, _), (16, _), (15, _), (0, _), (1, _), (2, _), (3, _), (4, _), (5, _), (6, _), (7, _), (8, _), (9, _), (10, _), (11, _), (12, _), (13, _), (14, _)]) (by decide) rfl dL_wins_285 ?_
            refine V_iload X rfl dL_wins_287 ?_
            refine V_ldc X (v := 8000000) (by decide +kernel) dL_wins_289 ?_
            refine V_iadd X dL_wins_291 ?_
            refine V_sipush X (v := 8000) (by decide) dL_wins_292 ?_
            refine V_idiv X (by decide) dL_wins_295 ?_
            refine V_sipush X (v := 1000) (by decide) dL_wins_296 ?_
            refine V_isub X dL_wins_299 ?_
            refine V.top (y := downI (ar 2 i * (shI (ar 11 (2 * m)) 1 (exI (e0I (zN z 0) m ar)) i)) 8000) ((downI_8000 hbd.1 hbd.2).symm) ?_
            refine V_istore X (lv' := [(18, _), (17, _), (16, _), (15, _), (0, _), (1, _), (2, _), (3, _), (4, _), (5, _), (6, _), (7, _), (8, _), (9, _), (10, _), (11, _), (12, _), (13, _), (14, _)]) (by decide) rfl dL_wins_300 ?_
            refine V_aload X rfl dL_wins_302 ?_
            refine V_iload X rfl dL_wins_304 ?_
            refine V_taL X hT 0 (i) (by decide) (by omega) (mixF_e hlt e1) dL_wins_306 ?_
            refine V_iload X rfl dL_wins_307 ?_
            refine V_if_eq X (tgt := 317) (by decide) dL_wins_309 (fun hc309 => absurd hc309 (by decide)) (fun hc309 => ?_)
            refine V_iload X rfl dL_wins_312 ?_
            refine V_goto X (tgt := 318) (by decide) dL_wins_314 ?_
            refine V_iadd X dL_wins_318 ?_
            refine V.top (y := (ar 1 i + downI (ar 2 i * (shI (ar 11 (2 * m)) 1 (exI (e0I (zN z 0) m ar)) i)) 8000)) (rfl) ?_
            refine V_istore X (lv' := [(19, _), (18, _), (17, _), (16, _), (15, _), (0, _), (1, _), (2, _), (3, _), (4, _), (5, _), (6, _), (7, _), (8, _), (9, _), (10, _), (11, _), (12, _), (13, _), (14, _)]) (by decide) rfl dL_wins_319 ?_
            refine V.join (P := fun v9 => v9 = clI ((ar 1 i + downI (ar 2 i * (shI (ar 11 (2 * m)) 1 (exI (e0I (zN z 0) m ar)) i)) 8000))) 346 (fun w346 hw346 => ?_) (fun hj346 => ?_)
            · subst hw346
              refine V_istore X (lv' := [(19, _), (18, _), (17, _), (16, _), (15, _), (0, _), (1, _), (2, _), (3, _), (4, _), (5, _), (6, _), (7, _), (8, _), (9, _), (10, _), (11, _), (12, _), (13, _), (14, _)]) (by decide) rfl dL_wins_346 ?_
              refine V.join (P := fun v9 => v9 = nuI (ar 2 i)) 380 (fun w380 hw380 => ?_) (fun hj380 => ?_)
              · subst hw380
                refine V_istore X (lv' := [(20, _), (19, _), (18, _), (17, _), (16, _), (15, _), (0, _), (1, _), (2, _), (3, _), (4, _), (5, _), (6, _), (7, _), (8, _), (9, _), (10, _), (11, _), (12, _), (13, _), (14, _)]) (by decide) rfl dL_wins_380 ?_
                refine V_aload_n X rfl dL_wins_382 ?_
                refine V_iload X rfl dL_wins_383 ?_
                refine V_callVp X (rest := _) (c_X5_rating_t _ _ _ al _ z hR i hlt) (hR.2.1 (15, 0) dm15) rfl gL_wins_X5_rating rfl hdv_X5_rating (Nat.le_of_ble_eq_true rfl) (Nat.le_of_ble_eq_true rfl) rfl (Nat.le_of_ble_eq_true rfl) dL_wins_385 ?_
                refine V.top (y := clI (ar 1 i + downI (ar 2 i * (shI (ar 11 (2 * m)) 1 (exI (e0I (zN z 0) m ar)) i)) 8000)) (hg1i hin) ?_
                refine V_iload X rfl dL_wins_388 ?_
                refine V_icmp_ne X (tgt := 458) (by decide) dL_wins_390 (fun hc390 => absurd hc390 (fun q => q rfl)) (fun hc390 => ?_)
                refine V_aload_n X rfl dL_wins_393 ?_
                refine V_iload X rfl dL_wins_394 ?_
                refine V_callVp X (rest := _) (c_X5_uncertainty_t _ _ _ al _ z hR i hlt) (hR.2.1 (15, 0) dm15) rfl gL_wins_X5_uncertainty rfl hdv_X5_uncertainty (Nat.le_of_ble_eq_true rfl) (Nat.le_of_ble_eq_true rfl) rfl (Nat.le_of_ble_eq_true rfl) dL_wins_396 ?_
                refine V.top (y := nuI (ar 2 i)) (hg2i hin) ?_
                refine V_iload X rfl dL_wins_399 ?_
                refine V_if_eq X (tgt := 409) (by decide) dL_wins_401 (fun hc401 => absurd hc401 (by decide)) (fun hc401 => ?_)
                refine V_iload X rfl dL_wins_404 ?_
                refine V_goto X (tgt := 414) (by decide) dL_wins_406 ?_
                refine V_icmp_ne X (tgt := 458) (by decide) dL_wins_414 (fun hc414 => absurd hc414 (fun q => q rfl)) (fun hc414 => ?_)
                refine V_aload_n X rfl dL_wins_417 ?_
                refine V_iload X rfl dL_wins_418 ?_
                refine V_callVp X (rest := _) (c_X5_level_t _ _ _ al _ z hR i hlt) (hR.2.1 (15, 0) dm15) rfl gL_wins_X5_level rfl hdv_X5_level (Nat.le_of_ble_eq_true rfl) (Nat.le_of_ble_eq_true rfl) rfl (Nat.le_of_ble_eq_true rfl) dL_wins_420 ?_
                refine V.top (y := nlI (ar 4 i)) (hg3i hin) ?_
                refine V_iload X rfl dL_wins_423 ?_
                refine V_if_eq X (tgt := 446) (by decide) dL_wins_425 (fun hc425 => absurd hc425 (by decide)) (fun hc425 => ?_)
                refine V_aload X rfl dL_wins_428 ?_
                refine V_iload X rfl dL_wins_430 ?_
                refine V_taL X hT 2 (i) (by decide) (by omega) (mixF_e hlt e4) dL_wins_432 ?_
                refine V_if_le X (tgt := 446) (by decide) dL_wins_433 (fun hc433 => ?_) (fun hc433 => ?_)
                · refine V_aload X rfl dL_wins_446 ?_
                  refine V_iload X rfl dL_wins_448 ?_
                  refine V_taL X hT 2 (i) (by decide) (by omega) (mixF_e hlt e4) dL_wins_450 ?_
                  refine V_icmp_ne X (tgt := 458) (by decide) dL_wins_451 (fun hc451 => absurd hc451 (fun q => q (by unfold nlI; rw [if_pos hc433, Int32.sub_zero]))) (fun hc451 => ?_)
                  refine V_iconst X (v := 1) (by decide) dL_wins_454 ?_
                  refine V_goto X (tgt := 459) (by decide) dL_wins_455 ?_
                  refine V_istore X (lv' := [(13, _), (20, _), (19, _), (18, _), (17, _), (16, _), (15, _), (0, _), (1, _), (2, _), (3, _), (4, _), (5, _), (6, _), (7, _), (8, _), (9, _), (10, _), (11, _), (12, _), (14, _)]) (by decide) rfl dL_wins_459 ?_
                  refine V_iinc X (lv' := [(14, _), (13, _), (20, _), (19, _), (18, _), (17, _), (16, _), (15, _), (0, _), (1, _), (2, _), (3, _), (4, _), (5, _), (6, _), (7, _), (8, _), (9, _), (10, _), (11, _), (12, _)]) (v := nI (i + 1)) rfl (nI_1 _) (by decide) rfl dL_wins_461 ?_
                  refine V_goto X (tgt := 189) (by decide) dL_wins_464 ?_
                  refine V.lvs (lv' := [(0, _), (1, _), (2, _), (3, _), (4, _), (5, _), (6, _), (7, _), (8, _), (9, _), (10, _), (11, _), (12, _), (13, _), (14, _)]) rfl ?_
                  exact ih (zN z 0 - (i + 1)) (by omega) (i + 1) rfl (by omega)
                · refine V_aload X rfl dL_wins_436 ?_
                  refine V_iload X rfl dL_wins_438 ?_
                  refine V_taL X hT 2 (i) (by decide) (by omega) (mixF_e hlt e4) dL_wins_440 ?_
                  refine V_iconst X (v := 1) (by decide) dL_wins_441 ?_
                  refine V_isub X dL_wins_442 ?_
                  refine V_goto X (tgt := 451) (by decide) dL_wins_443 ?_
                  refine V_icmp_ne X (tgt := 458) (by decide) dL_wins_451 (fun hc451 => absurd hc451 (fun q => q (by unfold nlI; rw [if_neg hc433]))) (fun hc451 => ?_)
                  refine V_iconst X (v := 1) (by decide) dL_wins_454 ?_
                  refine V_goto X (tgt := 459) (by decide) dL_wins_455 ?_
                  refine V_istore X (lv' := [(13, _), (20, _), (19, _), (18, _), (17, _), (16, _), (15, _), (0, _), (1, _), (2, _), (3, _), (4, _), (5, _), (6, _), (7, _), (8, _), (9, _), (10, _), (11, _), (12, _), (14, _)]) (by decide) rfl dL_wins_459 ?_
                  refine V_iinc X (lv' := [(14, _), (13, _), (20, _), (19, _), (18, _), (17, _), (16, _), (15, _), (0, _), (1, _), (2, _), (3, _), (4, _), (5, _), (6, _), (7, _), (8, _), (9, _), (10, _), (11, _), (12, _)]) (v := nI (i + 1)) rfl (nI_1 _) (by decide) rfl dL_wins_461 ?_
                  refine V_goto X (tgt := 189) (by decide) dL_wins_464 ?_
                  refine V.lvs (lv' := [(0, _), (1, _), (2, _), (3, _), (4, _), (5, _), (6, _), (7, _), (8, _), (9, _), (10, _), (11, _), (12, _), (13, _), (14, _)]) rfl ?_
                  exact ih (zN z 0 - (i + 1)) (by omega) (i + 1) rfl (by omega)
              · refine V_aload X rfl dL_wins_348 ?_
                refine V_iload X rfl dL_wins_350 ?_
                refine V_taL X hT 1 (i) (by decide) (by omega) (mixF_e hlt e2) dL_wins_352 ?_
                refine V_bipush X (v := 9) (by decide) dL_wins_353 ?_
                refine V_imul X dL_wins_355 ?_
                refine V_bipush X (v := 10) (by decide) dL_wins_356 ?_
                refine V_idiv X (by decide) dL_wins_358 ?_
                refine V_bipush X (v := 50) (by decide) dL_wins_359 ?_
                refine V_icmp_ge X (tgt := 369) (by decide) dL_wins_361 (fun hc361 => ?_) (fun hc361 => ?_)
                · refine V_aload X rfl dL_wins_369 ?_
                  refine V_iload X rfl dL_wins_371 ?_
                  refine V_taL X hT 1 (i) (by decide) (by omega) (mixF_e hlt e2) dL_wins_373 ?_
                  refine V_bipush X (v := 9) (by decide) dL_wins_374 ?_
                  refine V_imul X dL_wins_376 ?_
                  refine V_bipush X (v := 10) (by decide) dL_wins_377 ?_
                  refine V_idiv X (by decide) dL_wins_379 ?_
                  exact hj380 _ ((by unfold nuI; rw [if_pos hc361]))
                · refine V_bipush X (v := 50) (by decide) dL_wins_364 ?_
                  refine V_goto X (tgt := 380) (by decide) dL_wins_366 ?_
                  exact hj380 _ ((by unfold nuI; rw [if_neg hc361]))
            · refine V_iload X rfl dL_wins_321 ?_
              refine V_if_ge X (tgt := 330) (by decide) dL_wins_323 (fun hc323 => ?_) (fun hc323 => ?_)
              · refine V_iload X rfl dL_wins_330 ?_
                refine V_sipush X (v := 4000) (by decide) dL_wins_332 ?_
                refine V_icmp_le X (tgt := 344) (by decide) dL_wins_335 (fun hc335 => ?_) (fun hc335 => ?_)
                · refine V_iload X rfl dL_wins_344 ?_
                  exact hj346 _ ((by unfold clI; rw [if_pos hc323, if_pos hc335]))
                · refine V_sipush X (v := 4000) (by decide) dL_wins_338 ?_
                  refine V_goto X (tgt := 346) (by decide) dL_wins_341 ?_
                  exact hj346 _ ((by unfold clI; rw [if_pos hc323, if_neg hc335]))
              · refine V_iconst X (v := 0) (by decide) dL_wins_326 ?_
                refine V_goto X (tgt := 346) (by decide) dL_wins_327 ?_
                exact hj346 _ ((by unfold clI; rw [if_neg (Int32.not_le.mpr (Int32.not_le.mp hc323))]))
          · refine V_iload X rfl dL_wins_198 ?_
            refine V_if_eq X (tgt := 467) (by decide) dL_wins_200 (fun hc200 => absurd hc200 (by decide)) (fun hc200 => ?_)
            refine V_iload X rfl dL_wins_203 ?_
            refine V_if_eq X (tgt := 224) (by decide) dL_wins_205 (fun hc205 => absurd hc205 (by decide)) (fun hc205 => ?_)
            refine V_aload X rfl dL_wins_208 ?_
            refine V_iload_n X rfl dL_wins_210 ?_
            refine V_ald X hA 1 (m) 31 (by decide) rfl (by omega) (rfl) dL_wins_211 ?_
            refine V_iload X rfl dL_wins_212 ?_
            refine V_callSp X (rest := _) (c_L_has _ _ _ _ _) gL_wins_L_has rfl hds_L_has (Nat.le_of_ble_eq_true rfl) (Nat.le_of_ble_eq_true rfl) rfl (Nat.le_of_ble_eq_true rfl) dL_wins_214 ?_
            refine V.top (y := 1) (by rw [hu1, hin]; rfl) ?_
            refine V_if_eq X (tgt := 224) (by decide) dL_wins_217 (fun hc217 => absurd hc217 (by decide)) (fun hc217 => ?_)
            refine V_iconst X (v := 1) (by decide) dL_wins_220 ?_
            refine V_goto X (tgt := 225) (by decide) dL_wins_221 ?_
            refine V_istore X (lv' := [(15, _), (0, _), (1, _), (2, _), (3, _), (4, _), (5, _), (6, _), (7, _), (8, _), (9, _), (10, _), (11, _), (12, _), (13, _), (14, _)]) (by decide) rfl dL_wins_225 ?_
            refine V_iload X rfl dL_wins_227 ?_
            refine V_iload X rfl dL_wins_229 ?_
            refine V_callSp X (rest := _) (c_L_has _ _ _ _ _) gL_wins_L_has rfl hds_L_has (Nat.le_of_ble_eq_true rfl) (Nat.le_of_ble_eq_true rfl) rfl (Nat.le_of_ble_eq_true rfl) dL_wins_231 ?_
            refine V.top (y := 0) (by rw [g9, hzz]; rfl) ?_
            refine V_iload_n X rfl dL_wins_234 ?_
            refine V_if_ne X (tgt := 242) (by decide) dL_wins_235 (fun hc235 => ?_) (fun hc235 => absurd hc235 (by decide))
            refine V_iconst X (v := 0) (by decide) dL_wins_242 ?_
            refine V_icmp_ne X (tgt := 252) (by decide) dL_wins_243 (fun hc243 => absurd hc243 (by decide)) (fun hc243 => ?_)
            refine V_sipush X (v := 1000) (by decide) dL_wins_246 ?_
            refine V_goto X (tgt := 253) (by decide) dL_wins_249 ?_
            refine V_istore X (lv' := [(16, _), (15, _), (0, _), (1, _), (2, _), (3, _), (4, _), (5, _), (6, _), (7, _), (8, _), (9, _), (10, _), (11, _), (12, _), (13, _), (14, _)]) (by decide) rfl dL_wins_253 ?_
            refine V_aload X rfl dL_wins_255 ?_
            refine V_iload X rfl dL_wins_257 ?_
            refine V_taL X hT 1 (i) (by decide) (by omega) (mixF_e hlt e2) dL_wins_259 ?_
            refine V_iload X rfl dL_wins_260 ?_
            refine V_iload X rfl dL_wins_262 ?_
            refine V_iload X rfl dL_wins_264 ?_
            refine V_callSp X (rest := _) (c_L_has _ _ _ _ _) gL_wins_L_has rfl hds_L_has (Nat.le_of_ble_eq_true rfl) (Nat.le_of_ble_eq_true rfl) rfl (Nat.le_of_ble_eq_true rfl) dL_wins_266 ?_
            refine V.top (y := 0) (by rw [g9, hzz]; rfl) ?_
            refine V_if_eq X (tgt := 277) (by decide) dL_wins_269 (fun hc269 => ?_) (fun hc269 => absurd hc269 (by decide))
            refine V_sipush X (v := 1000) (by decide) dL_wins_277 ?_
            refine V_iload X rfl dL_wins_280 ?_
            refine V_isub X dL_wins_282 ?_
            refine V_isub X dL_wins_283 ?_
            refine V_imul X dL_wins_284 ?_
            refine V.top (y := ar 2 i * (shI (ar 11 (2 * m)) 1 (exI (e0I (zN z 0) m ar)) i)) ((congrArg (ar 2 i * ·) (hsn hzz)).symm) ?_
            refine V_istore X (lv' := [(17, _), (16, _), (15, _), (0, _), (1, _), (2, _), (3, _), (4, _), (5, _), (6, _), (7, _), (8, _), (9, _), (10, _), (11, _), (12, _), (13, _), (14, _)]) (by decide) rfl dL_wins_285 ?_
            refine V_iload X rfl dL_wins_287 ?_
            refine V_ldc X (v := 8000000) (by decide +kernel) dL_wins_289 ?_
            refine V_iadd X dL_wins_291 ?_
            refine V_sipush X (v := 8000) (by decide) dL_wins_292 ?_
            refine V_idiv X (by decide) dL_wins_295 ?_
            refine V_sipush X (v := 1000) (by decide) dL_wins_296 ?_
            refine V_isub X dL_wins_299 ?_
            refine V.top (y := downI (ar 2 i * (shI (ar 11 (2 * m)) 1 (exI (e0I (zN z 0) m ar)) i)) 8000) ((downI_8000 hbd.1 hbd.2).symm) ?_
            refine V_istore X (lv' := [(18, _), (17, _), (16, _), (15, _), (0, _), (1, _), (2, _), (3, _), (4, _), (5, _), (6, _), (7, _), (8, _), (9, _), (10, _), (11, _), (12, _), (13, _), (14, _)]) (by decide) rfl dL_wins_300 ?_
            refine V_aload X rfl dL_wins_302 ?_
            refine V_iload X rfl dL_wins_304 ?_
            refine V_taL X hT 0 (i) (by decide) (by omega) (mixF_e hlt e1) dL_wins_306 ?_
            refine V_iload X rfl dL_wins_307 ?_
            refine V_if_eq X (tgt := 317) (by decide) dL_wins_309 (fun hc309 => absurd hc309 (by decide)) (fun hc309 => ?_)
            refine V_iload X rfl dL_wins_312 ?_
            refine V_goto X (tgt := 318) (by decide) dL_wins_314 ?_
            refine V_iadd X dL_wins_318 ?_
            refine V.top (y := (ar 1 i + downI (ar 2 i * (shI (ar 11 (2 * m)) 1 (exI (e0I (zN z 0) m ar)) i)) 8000)) (rfl) ?_
            refine V_istore X (lv' := [(19, _), (18, _), (17, _), (16, _), (15, _), (0, _), (1, _), (2, _), (3, _), (4, _), (5, _), (6, _), (7, _), (8, _), (9, _), (10, _), (11, _), (12, _), (13, _), (14, _)]) (by decide) rfl dL_wins_319 ?_
            refine V.join (P := fun v9 => v9 = clI ((ar 1 i + downI (ar 2 i * (shI (ar 11 (2 * m)) 1 (exI (e0I (zN z 0) m ar)) i)) 8000))) 346 (fun w346 hw346 => ?_) (fun hj346 => ?_)
            · subst hw346
              refine V_istore X (lv' := [(19, _), (18, _), (17, _), (16, _), (15, _), (0, _), (1, _), (2, _), (3, _), (4, _), (5, _), (6, _), (7, _), (8, _), (9, _), (10, _), (11, _), (12, _), (13, _), (14, _)]) (by decide) rfl dL_wins_346 ?_
              refine V.join (P := fun v9 => v9 = nuI (ar 2 i)) 380 (fun w380 hw380 => ?_) (fun hj380 => ?_)
              · subst hw380
                refine V_istore X (lv' := [(20, _), (19, _), (18, _), (17, _), (16, _), (15, _), (0, _), (1, _), (2, _), (3, _), (4, _), (5, _), (6, _), (7, _), (8, _), (9, _), (10, _), (11, _), (12, _), (13, _), (14, _)]) (by decide) rfl dL_wins_380 ?_
                refine V_aload_n X rfl dL_wins_382 ?_
                refine V_iload X rfl dL_wins_383 ?_
                refine V_callVp X (rest := _) (c_X5_rating_t _ _ _ al _ z hR i hlt) (hR.2.1 (15, 0) dm15) rfl gL_wins_X5_rating rfl hdv_X5_rating (Nat.le_of_ble_eq_true rfl) (Nat.le_of_ble_eq_true rfl) rfl (Nat.le_of_ble_eq_true rfl) dL_wins_385 ?_
                refine V.top (y := clI (ar 1 i + downI (ar 2 i * (shI (ar 11 (2 * m)) 1 (exI (e0I (zN z 0) m ar)) i)) 8000)) (hg1i hin) ?_
                refine V_iload X rfl dL_wins_388 ?_
                refine V_icmp_ne X (tgt := 458) (by decide) dL_wins_390 (fun hc390 => absurd hc390 (fun q => q rfl)) (fun hc390 => ?_)
                refine V_aload_n X rfl dL_wins_393 ?_
                refine V_iload X rfl dL_wins_394 ?_
                refine V_callVp X (rest := _) (c_X5_uncertainty_t _ _ _ al _ z hR i hlt) (hR.2.1 (15, 0) dm15) rfl gL_wins_X5_uncertainty rfl hdv_X5_uncertainty (Nat.le_of_ble_eq_true rfl) (Nat.le_of_ble_eq_true rfl) rfl (Nat.le_of_ble_eq_true rfl) dL_wins_396 ?_
                refine V.top (y := nuI (ar 2 i)) (hg2i hin) ?_
                refine V_iload X rfl dL_wins_399 ?_
                refine V_if_eq X (tgt := 409) (by decide) dL_wins_401 (fun hc401 => absurd hc401 (by decide)) (fun hc401 => ?_)
                refine V_iload X rfl dL_wins_404 ?_
                refine V_goto X (tgt := 414) (by decide) dL_wins_406 ?_
                refine V_icmp_ne X (tgt := 458) (by decide) dL_wins_414 (fun hc414 => absurd hc414 (fun q => q rfl)) (fun hc414 => ?_)
                refine V_aload_n X rfl dL_wins_417 ?_
                refine V_iload X rfl dL_wins_418 ?_
                refine V_callVp X (rest := _) (c_X5_level_t _ _ _ al _ z hR i hlt) (hR.2.1 (15, 0) dm15) rfl gL_wins_X5_level rfl hdv_X5_level (Nat.le_of_ble_eq_true rfl) (Nat.le_of_ble_eq_true rfl) rfl (Nat.le_of_ble_eq_true rfl) dL_wins_420 ?_
                refine V.top (y := nlI (ar 4 i)) (hg3i hin) ?_
                refine V_iload X rfl dL_wins_423 ?_
                refine V_if_eq X (tgt := 446) (by decide) dL_wins_425 (fun hc425 => absurd hc425 (by decide)) (fun hc425 => ?_)
                refine V_aload X rfl dL_wins_428 ?_
                refine V_iload X rfl dL_wins_430 ?_
                refine V_taL X hT 2 (i) (by decide) (by omega) (mixF_e hlt e4) dL_wins_432 ?_
                refine V_if_le X (tgt := 446) (by decide) dL_wins_433 (fun hc433 => ?_) (fun hc433 => ?_)
                · refine V_aload X rfl dL_wins_446 ?_
                  refine V_iload X rfl dL_wins_448 ?_
                  refine V_taL X hT 2 (i) (by decide) (by omega) (mixF_e hlt e4) dL_wins_450 ?_
                  refine V_icmp_ne X (tgt := 458) (by decide) dL_wins_451 (fun hc451 => absurd hc451 (fun q => q (by unfold nlI; rw [if_pos hc433, Int32.sub_zero]))) (fun hc451 => ?_)
                  refine V_iconst X (v := 1) (by decide) dL_wins_454 ?_
                  refine V_goto X (tgt := 459) (by decide) dL_wins_455 ?_
                  refine V_istore X (lv' := [(13, _), (20, _), (19, _), (18, _), (17, _), (16, _), (15, _), (0, _), (1, _), (2, _), (3, _), (4, _), (5, _), (6, _), (7, _), (8, _), (9, _), (10, _), (11, _), (12, _), (14, _)]) (by decide) rfl dL_wins_459 ?_
                  refine V_iinc X (lv' := [(14, _), (13, _), (20, _), (19, _), (18, _), (17, _), (16, _), (15, _), (0, _), (1, _), (2, _), (3, _), (4, _), (5, _), (6, _), (7, _), (8, _), (9, _), (10, _), (11, _), (12, _)]) (v := nI (i + 1)) rfl (nI_1 _) (by decide) rfl dL_wins_461 ?_
                  refine V_goto X (tgt := 189) (by decide) dL_wins_464 ?_
                  refine V.lvs (lv' := [(0, _), (1, _), (2, _), (3, _), (4, _), (5, _), (6, _), (7, _), (8, _), (9, _), (10, _), (11, _), (12, _), (13, _), (14, _)]) rfl ?_
                  exact ih (zN z 0 - (i + 1)) (by omega) (i + 1) rfl (by omega)
                · refine V_aload X rfl dL_wins_436 ?_
                  refine V_iload X rfl dL_wins_438 ?_
                  refine V_taL X hT 2 (i) (by decide) (by omega) (mixF_e hlt e4) dL_wins_440 ?_
                  refine V_iconst X (v := 1) (by decide) dL_wins_441 ?_
                  refine V_isub X dL_wins_442 ?_
                  refine V_goto X (tgt := 451) (by decide) dL_wins_443 ?_
                  refine V_icmp_ne X (tgt := 458) (by decide) dL_wins_451 (fun hc451 => absurd hc451 (fun q => q (by unfold nlI; rw [if_neg hc433]))) (fun hc451 => ?_)
                  refine V_iconst X (v := 1) (by decide) dL_wins_454 ?_
                  refine V_goto X (tgt := 459) (by decide) dL_wins_455 ?_
                  refine V_istore X (lv' := [(13, _), (20, _), (19, _), (18, _), (17, _), (16, _), (15, _), (0, _), (1, _), (2, _), (3, _), (4, _), (5, _), (6, _), (7, _), (8, _), (9, _), (10, _), (11, _), (12, _), (14, _)]) (by decide) rfl dL_wins_459 ?_
                  refine V_iinc X (lv' := [(14, _), (13, _), (20, _), (19, _), (18, _), (17, _), (16, _), (15, _), (0, _), (1, _), (2, _), (3, _), (4, _), (5, _), (6, _), (7, _), (8, _), (9, _), (10, _), (11, _), (12, _)]) (v := nI (i + 1)) rfl (nI_1 _) (by decide) rfl dL_wins_461 ?_
                  refine V_goto X (tgt := 189) (by decide) dL_wins_464 ?_
                  refine V.lvs (lv' := [(0, _), (1, _), (2, _), (3, _), (4, _), (5, _), (6, _), (7, _), (8, _), (9, _), (10, _), (11, _), (12, _), (13, _), (14, _)]) rfl ?_
                  exact ih (zN z 0 - (i + 1)) (by omega) (i + 1) rfl (by omega)
              · refine V_aload X rfl dL_wins_348 ?_
                refine V_iload X rfl dL_wins_350 ?_
                refine V_taL X hT 1 (i) (by decide) (by omega) (mixF_e hlt e2) dL_wins_352 ?_
                refine V_bipush X (v := 9) (by decide) dL_wins_353 ?_
                refine V_imul X dL_wins_355 ?_
                refine V_bipush X (v := 10) (by decide) dL_wins_356 ?_
                refine V_idiv X (by decide) dL_wins_358 ?_
                refine V_bipush X (v := 50) (by decide) dL_wins_359 ?_
                refine V_icmp_ge X (tgt := 369) (by decide) dL_wins_361 (fun hc361 => ?_) (fun hc361 => ?_)
                · refine V_aload X rfl dL_wins_369 ?_
                  refine V_iload X rfl dL_wins_371 ?_
                  refine V_taL X hT 1 (i) (by decide) (by omega) (mixF_e hlt e2) dL_wins_373 ?_
                  refine V_bipush X (v := 9) (by decide) dL_wins_374 ?_
                  refine V_imul X dL_wins_376 ?_
                  refine V_bipush X (v := 10) (by decide) dL_wins_377 ?_
                  refine V_idiv X (by decide) dL_wins_379 ?_
                  exact hj380 _ ((by unfold nuI; rw [if_pos hc361]))
                · refine V_bipush X (v := 50) (by decide) dL_wins_364 ?_
                  refine V_goto X (tgt := 380) (by decide) dL_wins_366 ?_
                  exact hj380 _ ((by unfold nuI; rw [if_neg hc361]))
            · refine V_iload X rfl dL_wins_321 ?_
              refine V_if_ge X (tgt := 330) (by decide) dL_wins_323 (fun hc323 => ?_) (fun hc323 => ?_)
              · refine V_iload X rfl dL_wins_330 ?_
                refine V_sipush X (v := 4000) (by decide) dL_wins_332 ?_
                refine V_icmp_le X (tgt := 344) (by decide) dL_wins_335 (fun hc335 => ?_) (fun hc335 => ?_)
                · refine V_iload X rfl dL_wins_344 ?_
                  exact hj346 _ ((by unfold clI; rw [if_pos hc323, if_pos hc335]))
                · refine V_sipush X (v := 4000) (by decide) dL_wins_338 ?_
                  refine V_goto X (tgt := 346) (by decide) dL_wins_341 ?_
                  exact hj346 _ ((by unfold clI; rw [if_pos hc323, if_neg hc335]))
              · refine V_iconst X (v := 0) (by decide) dL_wins_326 ?_
                refine V_goto X (tgt := 346) (by decide) dL_wins_327 ?_
                exact hj346 _ ((by unfold clI; rw [if_neg (Int32.not_le.mpr (Int32.not_le.mp hc323))]))
          · refine V_iload X rfl dL_wins_198 ?_
            refine V_if_eq X (tgt := 467) (by decide) dL_wins_200 (fun hc200 => absurd hc200 (by decide)) (fun hc200 => ?_)
            refine V_iload X rfl dL_wins_203 ?_
            refine V_if_eq X (tgt := 224) (by decide) dL_wins_205 (fun hc205 => absurd hc205 (by decide)) (fun hc205 => ?_)
            refine V_aload X rfl dL_wins_208 ?_
            refine V_iload_n X rfl dL_wins_210 ?_
            refine V_ald X hA 1 (m) 31 (by decide) rfl (by omega) (rfl) dL_wins_211 ?_
            refine V_iload X rfl dL_wins_212 ?_
            refine V_callSp X (rest := _) (c_L_has _ _ _ _ _) gL_wins_L_has rfl hds_L_has (Nat.le_of_ble_eq_true rfl) (Nat.le_of_ble_eq_true rfl) rfl (Nat.le_of_ble_eq_true rfl) dL_wins_214 ?_
            refine V.top (y := 0) (by rw [hu1, hin]; rfl) ?_
            refine V_if_eq X (tgt := 224) (by decide) dL_wins_217 (fun hc217 => ?_) (fun hc217 => absurd hc217 (by decide))
            refine V_iconst X (v := 0) (by decide) dL_wins_224 ?_
            refine V_istore X (lv' := [(15, _), (0, _), (1, _), (2, _), (3, _), (4, _), (5, _), (6, _), (7, _), (8, _), (9, _), (10, _), (11, _), (12, _), (13, _), (14, _)]) (by decide) rfl dL_wins_225 ?_
            refine V_iload X rfl dL_wins_227 ?_
            refine V_iload X rfl dL_wins_229 ?_
            refine V_callSp X (rest := _) (c_L_has _ _ _ _ _) gL_wins_L_has rfl hds_L_has (Nat.le_of_ble_eq_true rfl) (Nat.le_of_ble_eq_true rfl) rfl (Nat.le_of_ble_eq_true rfl) dL_wins_231 ?_
            refine V.top (y := 1) (by rw [g9, hzz]; rfl) ?_
            refine V_iload_n X rfl dL_wins_234 ?_
            refine V_if_ne X (tgt := 242) (by decide) dL_wins_235 (fun hc235 => ?_) (fun hc235 => absurd hc235 (by decide))
            refine V_iconst X (v := 0) (by decide) dL_wins_242 ?_
            refine V_icmp_ne X (tgt := 252) (by decide) dL_wins_243 (fun hc243 => ?_) (fun hc243 => absurd hc243 (by decide))
            refine V_iconst X (v := 0) (by decide) dL_wins_252 ?_
            refine V_istore X (lv' := [(16, _), (15, _), (0, _), (1, _), (2, _), (3, _), (4, _), (5, _), (6, _), (7, _), (8, _), (9, _), (10, _), (11, _), (12, _), (13, _), (14, _)]) (by decide) rfl dL_wins_253 ?_
            refine V_aload X rfl dL_wins_255 ?_
            refine V_iload X rfl dL_wins_257 ?_
            refine V_taL X hT 1 (i) (by decide) (by omega) (mixF_e hlt e2) dL_wins_259 ?_
            refine V_iload X rfl dL_wins_260 ?_
            refine V_iload X rfl dL_wins_262 ?_
            refine V_iload X rfl dL_wins_264 ?_
            refine V_callSp X (rest := _) (c_L_has _ _ _ _ _) gL_wins_L_has rfl hds_L_has (Nat.le_of_ble_eq_true rfl) (Nat.le_of_ble_eq_true rfl) rfl (Nat.le_of_ble_eq_true rfl) dL_wins_266 ?_
            refine V.top (y := 1) (by rw [g9, hzz]; rfl) ?_
            refine V_if_eq X (tgt := 277) (by decide) dL_wins_269 (fun hc269 => absurd hc269 (by decide)) (fun hc269 => ?_)
            refine V_iload X rfl dL_wins_272 ?_
            refine V_goto X (tgt := 283) (by decide) dL_wins_274 ?_
            refine V_isub X dL_wins_283 ?_
            refine V_imul X dL_wins_284 ?_
            refine V.top (y := ar 2 i * (shI (ar 11 (2 * m)) 1 (exI (e0I (zN z 0) m ar)) i)) ((congrArg (ar 2 i * ·) (hsz hzz)).symm) ?_
            refine V_istore X (lv' := [(17, _), (16, _), (15, _), (0, _), (1, _), (2, _), (3, _), (4, _), (5, _), (6, _), (7, _), (8, _), (9, _), (10, _), (11, _), (12, _), (13, _), (14, _)]) (by decide) rfl dL_wins_285 ?_
            refine V_iload X rfl dL_wins_287 ?_
            refine V_ldc X (v := 8000000) (by decide +kernel) dL_wins_289 ?_
            refine V_iadd X dL_wins_291 ?_
            refine V_sipush X (v := 8000) (by decide) dL_wins_292 ?_
            refine V_idiv X (by decide) dL_wins_295 ?_
            refine V_sipush X (v := 1000) (by decide) dL_wins_296 ?_
            refine V_isub X dL_wins_299 ?_
            refine V.top (y := downI (ar 2 i * (shI (ar 11 (2 * m)) 1 (exI (e0I (zN z 0) m ar)) i)) 8000) ((downI_8000 hbd.1 hbd.2).symm) ?_
            refine V_istore X (lv' := [(18, _), (17, _), (16, _), (15, _), (0, _), (1, _), (2, _), (3, _), (4, _), (5, _), (6, _), (7, _), (8, _), (9, _), (10, _), (11, _), (12, _), (13, _), (14, _)]) (by decide) rfl dL_wins_300 ?_
            refine V_aload X rfl dL_wins_302 ?_
            refine V_iload X rfl dL_wins_304 ?_
            refine V_taL X hT 0 (i) (by decide) (by omega) (mixF_e hlt e1) dL_wins_306 ?_
            refine V_iload X rfl dL_wins_307 ?_
            refine V_if_eq X (tgt := 317) (by decide) dL_wins_309 (fun hc309 => ?_) (fun hc309 => absurd hc309 (by decide))
            refine V_iconst X (v := 0) (by decide) dL_wins_317 ?_
            refine V_iadd X dL_wins_318 ?_
            refine V.top (y := ar 1 i) (Int32.add_zero _) ?_
            refine V_istore X (lv' := [(19, _), (18, _), (17, _), (16, _), (15, _), (0, _), (1, _), (2, _), (3, _), (4, _), (5, _), (6, _), (7, _), (8, _), (9, _), (10, _), (11, _), (12, _), (13, _), (14, _)]) (by decide) rfl dL_wins_319 ?_
            refine V.join (P := fun v9 => v9 = clI (ar 1 i)) 346 (fun w346 hw346 => ?_) (fun hj346 => ?_)
            · subst hw346
              refine V_istore X (lv' := [(19, _), (18, _), (17, _), (16, _), (15, _), (0, _), (1, _), (2, _), (3, _), (4, _), (5, _), (6, _), (7, _), (8, _), (9, _), (10, _), (11, _), (12, _), (13, _), (14, _)]) (by decide) rfl dL_wins_346 ?_
              refine V.join (P := fun v9 => v9 = nuI (ar 2 i)) 380 (fun w380 hw380 => ?_) (fun hj380 => ?_)
              · subst hw380
                refine V_istore X (lv' := [(20, _), (19, _), (18, _), (17, _), (16, _), (15, _), (0, _), (1, _), (2, _), (3, _), (4, _), (5, _), (6, _), (7, _), (8, _), (9, _), (10, _), (11, _), (12, _), (13, _), (14, _)]) (by decide) rfl dL_wins_380 ?_
                refine V_aload_n X rfl dL_wins_382 ?_
                refine V_iload X rfl dL_wins_383 ?_
                refine V_callVp X (rest := _) (c_X5_rating_t _ _ _ al _ z hR i hlt) (hR.2.1 (15, 0) dm15) rfl gL_wins_X5_rating rfl hdv_X5_rating (Nat.le_of_ble_eq_true rfl) (Nat.le_of_ble_eq_true rfl) rfl (Nat.le_of_ble_eq_true rfl) dL_wins_385 ?_
                refine V.top (y := clI (ar 1 i)) ((hg1n hin).trans (by rw [hR2, clI_id hR1])) ?_
                refine V_iload X rfl dL_wins_388 ?_
                refine V_icmp_ne X (tgt := 458) (by decide) dL_wins_390 (fun hc390 => absurd hc390 (fun q => q rfl)) (fun hc390 => ?_)
                refine V_aload_n X rfl dL_wins_393 ?_
                refine V_iload X rfl dL_wins_394 ?_
                refine V_callVp X (rest := _) (c_X5_uncertainty_t _ _ _ al _ z hR i hlt) (hR.2.1 (15, 0) dm15) rfl gL_wins_X5_uncertainty rfl hdv_X5_uncertainty (Nat.le_of_ble_eq_true rfl) (Nat.le_of_ble_eq_true rfl) rfl (Nat.le_of_ble_eq_true rfl) dL_wins_396 ?_
                refine V.top (y := ar 2 i) (hg2n hin) ?_
                refine V_iload X rfl dL_wins_399 ?_
                refine V_if_eq X (tgt := 409) (by decide) dL_wins_401 (fun hc401 => ?_) (fun hc401 => absurd hc401 (by decide))
                refine V_aload X rfl dL_wins_409 ?_
                refine V_iload X rfl dL_wins_411 ?_
                refine V_taL X hT 1 (i) (by decide) (by omega) (mixF_e hlt e2) dL_wins_413 ?_
                refine V_icmp_ne X (tgt := 458) (by decide) dL_wins_414 (fun hc414 => absurd hc414 (fun q => q rfl)) (fun hc414 => ?_)
                refine V_aload_n X rfl dL_wins_417 ?_
                refine V_iload X rfl dL_wins_418 ?_
                refine V_callVp X (rest := _) (c_X5_level_t _ _ _ al _ z hR i hlt) (hR.2.1 (15, 0) dm15) rfl gL_wins_X5_level rfl hdv_X5_level (Nat.le_of_ble_eq_true rfl) (Nat.le_of_ble_eq_true rfl) rfl (Nat.le_of_ble_eq_true rfl) dL_wins_420 ?_
                refine V.top (y := ar 4 i) (hg3n hin) ?_
                refine V_iload X rfl dL_wins_423 ?_
                refine V_if_eq X (tgt := 446) (by decide) dL_wins_425 (fun hc425 => ?_) (fun hc425 => absurd hc425 (by decide))
                refine V_aload X rfl dL_wins_446 ?_
                refine V_iload X rfl dL_wins_448 ?_
                refine V_taL X hT 2 (i) (by decide) (by omega) (mixF_e hlt e4) dL_wins_450 ?_
                refine V_icmp_ne X (tgt := 458) (by decide) dL_wins_451 (fun hc451 => absurd hc451 (fun q => q rfl)) (fun hc451 => ?_)
                refine V_iconst X (v := 1) (by decide) dL_wins_454 ?_
                refine V_goto X (tgt := 459) (by decide) dL_wins_455 ?_
                refine V_istore X (lv' := [(13, _), (20, _), (19, _), (18, _), (17, _), (16, _), (15, _), (0, _), (1, _), (2, _), (3, _), (4, _), (5, _), (6, _), (7, _), (8, _), (9, _), (10, _), (11, _), (12, _), (14, _)]) (by decide) rfl dL_wins_459 ?_
                refine V_iinc X (lv' := [(14, _), (13, _), (20, _), (19, _), (18, _), (17, _), (16, _), (15, _), (0, _), (1, _), (2, _), (3, _), (4, _), (5, _), (6, _), (7, _), (8, _), (9, _), (10, _), (11, _), (12, _)]) (v := nI (i + 1)) rfl (nI_1 _) (by decide) rfl dL_wins_461 ?_
                refine V_goto X (tgt := 189) (by decide) dL_wins_464 ?_
                refine V.lvs (lv' := [(0, _), (1, _), (2, _), (3, _), (4, _), (5, _), (6, _), (7, _), (8, _), (9, _), (10, _), (11, _), (12, _), (13, _), (14, _)]) rfl ?_
                exact ih (zN z 0 - (i + 1)) (by omega) (i + 1) rfl (by omega)
              · refine V_aload X rfl dL_wins_348 ?_
                refine V_iload X rfl dL_wins_350 ?_
                refine V_taL X hT 1 (i) (by decide) (by omega) (mixF_e hlt e2) dL_wins_352 ?_
                refine V_bipush X (v := 9) (by decide) dL_wins_353 ?_
                refine V_imul X dL_wins_355 ?_
                refine V_bipush X (v := 10) (by decide) dL_wins_356 ?_
                refine V_idiv X (by decide) dL_wins_358 ?_
                refine V_bipush X (v := 50) (by decide) dL_wins_359 ?_
                refine V_icmp_ge X (tgt := 369) (by decide) dL_wins_361 (fun hc361 => ?_) (fun hc361 => ?_)
                · refine V_aload X rfl dL_wins_369 ?_
                  refine V_iload X rfl dL_wins_371 ?_
                  refine V_taL X hT 1 (i) (by decide) (by omega) (mixF_e hlt e2) dL_wins_373 ?_
                  refine V_bipush X (v := 9) (by decide) dL_wins_374 ?_
                  refine V_imul X dL_wins_376 ?_
                  refine V_bipush X (v := 10) (by decide) dL_wins_377 ?_
                  refine V_idiv X (by decide) dL_wins_379 ?_
                  exact hj380 _ ((by unfold nuI; rw [if_pos hc361]))
                · refine V_bipush X (v := 50) (by decide) dL_wins_364 ?_
                  refine V_goto X (tgt := 380) (by decide) dL_wins_366 ?_
                  exact hj380 _ ((by unfold nuI; rw [if_neg hc361]))
            · refine V_iload X rfl dL_wins_321 ?_
              refine V_if_ge X (tgt := 330) (by decide) dL_wins_323 (fun hc323 => ?_) (fun hc323 => ?_)
              · refine V_iload X rfl dL_wins_330 ?_
                refine V_sipush X (v := 4000) (by decide) dL_wins_332 ?_
                refine V_icmp_le X (tgt := 344) (by decide) dL_wins_335 (fun hc335 => ?_) (fun hc335 => ?_)
                · refine V_iload X rfl dL_wins_344 ?_
                  exact hj346 _ ((by unfold clI; rw [if_pos hc323, if_pos hc335]))
                · refine V_sipush X (v := 4000) (by decide) dL_wins_338 ?_
                  refine V_goto X (tgt := 346) (by decide) dL_wins_341 ?_
                  exact hj346 _ ((by unfold clI; rw [if_pos hc323, if_neg hc335]))
              · refine V_iconst X (v := 0) (by decide) dL_wins_326 ?_
                refine V_goto X (tgt := 346) (by decide) dL_wins_327 ?_
                exact hj346 _ ((by unfold clI; rw [if_neg (Int32.not_le.mpr (Int32.not_le.mp hc323))]))
          · refine V_iload X rfl dL_wins_198 ?_
            refine V_if_eq X (tgt := 467) (by decide) dL_wins_200 (fun hc200 => absurd hc200 (by decide)) (fun hc200 => ?_)
            refine V_iload X rfl dL_wins_203 ?_
            refine V_if_eq X (tgt := 224) (by decide) dL_wins_205 (fun hc205 => absurd hc205 (by decide)) (fun hc205 => ?_)
            refine V_aload X rfl dL_wins_208 ?_
            refine V_iload_n X rfl dL_wins_210 ?_
            refine V_ald X hA 1 (m) 31 (by decide) rfl (by omega) (rfl) dL_wins_211 ?_
            refine V_iload X rfl dL_wins_212 ?_
            refine V_callSp X (rest := _) (c_L_has _ _ _ _ _) gL_wins_L_has rfl hds_L_has (Nat.le_of_ble_eq_true rfl) (Nat.le_of_ble_eq_true rfl) rfl (Nat.le_of_ble_eq_true rfl) dL_wins_214 ?_
            refine V.top (y := 0) (by rw [hu1, hin]; rfl) ?_
            refine V_if_eq X (tgt := 224) (by decide) dL_wins_217 (fun hc217 => ?_) (fun hc217 => absurd hc217 (by decide))
            refine V_iconst X (v := 0) (by decide) dL_wins_224 ?_
            refine V_istore X (lv' := [(15, _), (0, _), (1, _), (2, _), (3, _), (4, _), (5, _), (6, _), (7, _), (8, _), (9, _), (10, _), (11, _), (12, _), (13, _), (14, _)]) (by decide) rfl dL_wins_225 ?_
            refine V_iload X rfl dL_wins_227 ?_
            refine V_iload X rfl dL_wins_229 ?_
            refine V_callSp X (rest := _) (c_L_has _ _ _ _ _) gL_wins_L_has rfl hds_L_has (Nat.le_of_ble_eq_true rfl) (Nat.le_of_ble_eq_true rfl) rfl (Nat.le_of_ble_eq_true rfl) dL_wins_231 ?_
            refine V.top (y := 0) (by rw [g9, hzz]; rfl) ?_
            refine V_iload_n X rfl dL_wins_234 ?_
            refine V_if_ne X (tgt := 242) (by decide) dL_wins_235 (fun hc235 => ?_) (fun hc235 => absurd hc235 (by decide))
            refine V_iconst X (v := 0) (by decide) dL_wins_242 ?_
            refine V_icmp_ne X (tgt := 252) (by decide) dL_wins_243 (fun hc243 => absurd hc243 (by decide)) (fun hc243 => ?_)
            refine V_sipush X (v := 1000) (by decide) dL_wins_246 ?_
            refine V_goto X (tgt := 253) (by decide) dL_wins_249 ?_
            refine V_istore X (lv' := [(16, _), (15, _), (0, _), (1, _), (2, _), (3, _), (4, _), (5, _), (6, _), (7, _), (8, _), (9, _), (10, _), (11, _), (12, _), (13, _), (14, _)]) (by decide) rfl dL_wins_253 ?_
            refine V_aload X rfl dL_wins_255 ?_
            refine V_iload X rfl dL_wins_257 ?_
            refine V_taL X hT 1 (i) (by decide) (by omega) (mixF_e hlt e2) dL_wins_259 ?_
            refine V_iload X rfl dL_wins_260 ?_
            refine V_iload X rfl dL_wins_262 ?_
            refine V_iload X rfl dL_wins_264 ?_
            refine V_callSp X (rest := _) (c_L_has _ _ _ _ _) gL_wins_L_has rfl hds_L_has (Nat.le_of_ble_eq_true rfl) (Nat.le_of_ble_eq_true rfl) rfl (Nat.le_of_ble_eq_true rfl) dL_wins_266 ?_
            refine V.top (y := 0) (by rw [g9, hzz]; rfl) ?_
            refine V_if_eq X (tgt := 277) (by decide) dL_wins_269 (fun hc269 => ?_) (fun hc269 => absurd hc269 (by decide))
            refine V_sipush X (v := 1000) (by decide) dL_wins_277 ?_
            refine V_iload X rfl dL_wins_280 ?_
            refine V_isub X dL_wins_282 ?_
            refine V_isub X dL_wins_283 ?_
            refine V_imul X dL_wins_284 ?_
            refine V.top (y := ar 2 i * (shI (ar 11 (2 * m)) 1 (exI (e0I (zN z 0) m ar)) i)) ((congrArg (ar 2 i * ·) (hsn hzz)).symm) ?_
            refine V_istore X (lv' := [(17, _), (16, _), (15, _), (0, _), (1, _), (2, _), (3, _), (4, _), (5, _), (6, _), (7, _), (8, _), (9, _), (10, _), (11, _), (12, _), (13, _), (14, _)]) (by decide) rfl dL_wins_285 ?_
            refine V_iload X rfl dL_wins_287 ?_
            refine V_ldc X (v := 8000000) (by decide +kernel) dL_wins_289 ?_
            refine V_iadd X dL_wins_291 ?_
            refine V_sipush X (v := 8000) (by decide) dL_wins_292 ?_
            refine V_idiv X (by decide) dL_wins_295 ?_
            refine V_sipush X (v := 1000) (by decide) dL_wins_296 ?_
            refine V_isub X dL_wins_299 ?_
            refine V.top (y := downI (ar 2 i * (shI (ar 11 (2 * m)) 1 (exI (e0I (zN z 0) m ar)) i)) 8000) ((downI_8000 hbd.1 hbd.2).symm) ?_
            refine V_istore X (lv' := [(18, _), (17, _), (16, _), (15, _), (0, _), (1, _), (2, _), (3, _), (4, _), (5, _), (6, _), (7, _), (8, _), (9, _), (10, _), (11, _), (12, _), (13, _), (14, _)]) (by decide) rfl dL_wins_300 ?_
            refine V_aload X rfl dL_wins_302 ?_
            refine V_iload X rfl dL_wins_304 ?_
            refine V_taL X hT 0 (i) (by decide) (by omega) (mixF_e hlt e1) dL_wins_306 ?_
            refine V_iload X rfl dL_wins_307 ?_
            refine V_if_eq X (tgt := 317) (by decide) dL_wins_309 (fun hc309 => ?_) (fun hc309 => absurd hc309 (by decide))
            refine V_iconst X (v := 0) (by decide) dL_wins_317 ?_
            refine V_iadd X dL_wins_318 ?_
            refine V.top (y := ar 1 i) (Int32.add_zero _) ?_
            refine V_istore X (lv' := [(19, _), (18, _), (17, _), (16, _), (15, _), (0, _), (1, _), (2, _), (3, _), (4, _), (5, _), (6, _), (7, _), (8, _), (9, _), (10, _), (11, _), (12, _), (13, _), (14, _)]) (by decide) rfl dL_wins_319 ?_
            refine V.join (P := fun v9 => v9 = clI (ar 1 i)) 346 (fun w346 hw346 => ?_) (fun hj346 => ?_)
            · subst hw346
              refine V_istore X (lv' := [(19, _), (18, _), (17, _), (16, _), (15, _), (0, _), (1, _), (2, _), (3, _), (4, _), (5, _), (6, _), (7, _), (8, _), (9, _), (10, _), (11, _), (12, _), (13, _), (14, _)]) (by decide) rfl dL_wins_346 ?_
              refine V.join (P := fun v9 => v9 = nuI (ar 2 i)) 380 (fun w380 hw380 => ?_) (fun hj380 => ?_)
              · subst hw380
                refine V_istore X (lv' := [(20, _), (19, _), (18, _), (17, _), (16, _), (15, _), (0, _), (1, _), (2, _), (3, _), (4, _), (5, _), (6, _), (7, _), (8, _), (9, _), (10, _), (11, _), (12, _), (13, _), (14, _)]) (by decide) rfl dL_wins_380 ?_
                refine V_aload_n X rfl dL_wins_382 ?_
                refine V_iload X rfl dL_wins_383 ?_
                refine V_callVp X (rest := _) (c_X5_rating_t _ _ _ al _ z hR i hlt) (hR.2.1 (15, 0) dm15) rfl gL_wins_X5_rating rfl hdv_X5_rating (Nat.le_of_ble_eq_true rfl) (Nat.le_of_ble_eq_true rfl) rfl (Nat.le_of_ble_eq_true rfl) dL_wins_385 ?_
                refine V.top (y := clI (ar 1 i)) ((hg1n hin).trans (by rw [hR2, clI_id hR1])) ?_
                refine V_iload X rfl dL_wins_388 ?_
                refine V_icmp_ne X (tgt := 458) (by decide) dL_wins_390 (fun hc390 => absurd hc390 (fun q => q rfl)) (fun hc390 => ?_)
                refine V_aload_n X rfl dL_wins_393 ?_
                refine V_iload X rfl dL_wins_394 ?_
                refine V_callVp X (rest := _) (c_X5_uncertainty_t _ _ _ al _ z hR i hlt) (hR.2.1 (15, 0) dm15) rfl gL_wins_X5_uncertainty rfl hdv_X5_uncertainty (Nat.le_of_ble_eq_true rfl) (Nat.le_of_ble_eq_true rfl) rfl (Nat.le_of_ble_eq_true rfl) dL_wins_396 ?_
                refine V.top (y := ar 2 i) (hg2n hin) ?_
                refine V_iload X rfl dL_wins_399 ?_
                refine V_if_eq X (tgt := 409) (by decide) dL_wins_401 (fun hc401 => ?_) (fun hc401 => absurd hc401 (by decide))
                refine V_aload X rfl dL_wins_409 ?_
                refine V_iload X rfl dL_wins_411 ?_
                refine V_taL X hT 1 (i) (by decide) (by omega) (mixF_e hlt e2) dL_wins_413 ?_
                refine V_icmp_ne X (tgt := 458) (by decide) dL_wins_414 (fun hc414 => absurd hc414 (fun q => q rfl)) (fun hc414 => ?_)
                refine V_aload_n X rfl dL_wins_417 ?_
                refine V_iload X rfl dL_wins_418 ?_
                refine V_callVp X (rest := _) (c_X5_level_t _ _ _ al _ z hR i hlt) (hR.2.1 (15, 0) dm15) rfl gL_wins_X5_level rfl hdv_X5_level (Nat.le_of_ble_eq_true rfl) (Nat.le_of_ble_eq_true rfl) rfl (Nat.le_of_ble_eq_true rfl) dL_wins_420 ?_
                refine V.top (y := ar 4 i) (hg3n hin) ?_
                refine V_iload X rfl dL_wins_423 ?_
                refine V_if_eq X (tgt := 446) (by decide) dL_wins_425 (fun hc425 => ?_) (fun hc425 => absurd hc425 (by decide))
                refine V_aload X rfl dL_wins_446 ?_
                refine V_iload X rfl dL_wins_448 ?_
                refine V_taL X hT 2 (i) (by decide) (by omega) (mixF_e hlt e4) dL_wins_450 ?_
                refine V_icmp_ne X (tgt := 458) (by decide) dL_wins_451 (fun hc451 => absurd hc451 (fun q => q rfl)) (fun hc451 => ?_)
                refine V_iconst X (v := 1) (by decide) dL_wins_454 ?_
                refine V_goto X (tgt := 459) (by decide) dL_wins_455 ?_
                refine V_istore X (lv' := [(13, _), (20, _), (19, _), (18, _), (17, _), (16, _), (15, _), (0, _), (1, _), (2, _), (3, _), (4, _), (5, _), (6, _), (7, _), (8, _), (9, _), (10, _), (11, _), (12, _), (14, _)]) (by decide) rfl dL_wins_459 ?_
                refine V_iinc X (lv' := [(14, _), (13, _), (20, _), (19, _), (18, _), (17, _), (16, _), (15, _), (0, _), (1, _), (2, _), (3, _), (4, _), (5, _), (6, _), (7, _), (8, _), (9, _), (10, _), (11, _), (12, _)]) (v := nI (i + 1)) rfl (nI_1 _) (by decide) rfl dL_wins_461 ?_
                refine V_goto X (tgt := 189) (by decide) dL_wins_464 ?_
                refine V.lvs (lv' := [(0, _), (1, _), (2, _), (3, _), (4, _), (5, _), (6, _), (7, _), (8, _), (9, _), (10, _), (11, _), (12, _), (13, _), (14, _)]) rfl ?_
                exact ih (zN z 0 - (i + 1)) (by omega) (i + 1) rfl (by omega)
              · refine V_aload X rfl dL_wins_348 ?_
                refine V_iload X rfl dL_wins_350 ?_
                refine V_taL X hT 1 (i) (by decide) (by omega) (mixF_e hlt e2) dL_wins_352 ?_
                refine V_bipush X (v := 9) (by decide) dL_wins_353 ?_
                refine V_imul X dL_wins_355 ?_
                refine V_bipush X (v := 10) (by decide) dL_wins_356 ?_
                refine V_idiv X (by decide) dL_wins_358 ?_
                refine V_bipush X (v := 50) (by decide) dL_wins_359 ?_
                refine V_icmp_ge X (tgt := 369) (by decide) dL_wins_361 (fun hc361 => ?_) (fun hc361 => ?_)
                · refine V_aload X rfl dL_wins_369 ?_
                  refine V_iload X rfl dL_wins_371 ?_
                  refine V_taL X hT 1 (i) (by decide) (by omega) (mixF_e hlt e2) dL_wins_373 ?_
                  refine V_bipush X (v := 9) (by decide) dL_wins_374 ?_
                  refine V_imul X dL_wins_376 ?_
                  refine V_bipush X (v := 10) (by decide) dL_wins_377 ?_
                  refine V_idiv X (by decide) dL_wins_379 ?_
                  exact hj380 _ ((by unfold nuI; rw [if_pos hc361]))
                · refine V_bipush X (v := 50) (by decide) dL_wins_364 ?_
                  refine V_goto X (tgt := 380) (by decide) dL_wins_366 ?_
                  exact hj380 _ ((by unfold nuI; rw [if_neg hc361]))
            · refine V_iload X rfl dL_wins_321 ?_
              refine V_if_ge X (tgt := 330) (by decide) dL_wins_323 (fun hc323 => ?_) (fun hc323 => ?_)
              · refine V_iload X rfl dL_wins_330 ?_
                refine V_sipush X (v := 4000) (by decide) dL_wins_332 ?_
                refine V_icmp_le X (tgt := 344) (by decide) dL_wins_335 (fun hc335 => ?_) (fun hc335 => ?_)
                · refine V_iload X rfl dL_wins_344 ?_
                  exact hj346 _ ((by unfold clI; rw [if_pos hc323, if_pos hc335]))
                · refine V_sipush X (v := 4000) (by decide) dL_wins_338 ?_
                  refine V_goto X (tgt := 346) (by decide) dL_wins_341 ?_
                  exact hj346 _ ((by unfold clI; rw [if_pos hc323, if_neg hc335]))
              · refine V_iconst X (v := 0) (by decide) dL_wins_326 ?_
                refine V_goto X (tgt := 346) (by decide) dL_wins_327 ?_
                exact hj346 _ ((by unfold clI; rw [if_neg (Int32.not_le.mpr (Int32.not_le.mp hc323))]))
    refine V_istore X (lv' := [(12, _), (0, _), (1, _), (2, _), (3, _), (4, _), (5, _), (6, _), (7, _), (8, _), (9, _), (10, _), (11, _)]) (by decide) rfl dL_wins_161 ?_
    refine V_iload X rfl dL_wins_163 ?_
    refine V_iload X rfl dL_wins_165 ?_
    refine V_if_eq X (tgt := 174) (by decide) dL_wins_167 (fun hc167 => absurd hc167 (by decide)) (fun hc167 => ?_)
    refine V_iconst X (v := 0) (by decide) dL_wins_170 ?_
    refine V_goto X (tgt := 176) (by decide) dL_wins_171 ?_
    refine V_icmp_ne X (tgt := 183) (by decide) dL_wins_176 (fun hc176 => absurd hc176 (fun q => q rfl)) (fun hc176 => ?_)
    refine V_iconst X (v := 1) (by decide) dL_wins_179 ?_
    refine V_goto X (tgt := 184) (by decide) dL_wins_180 ?_
    refine V_istore X (lv' := [(13, _), (12, _), (0, _), (1, _), (2, _), (3, _), (4, _), (5, _), (6, _), (7, _), (8, _), (9, _), (10, _), (11, _)]) (by decide) rfl dL_wins_184 ?_
    refine V_iconst X (v := 0) (by decide) dL_wins_186 ?_
    refine V_istore X (lv' := [(14, _), (13, _), (12, _), (0, _), (1, _), (2, _), (3, _), (4, _), (5, _), (6, _), (7, _), (8, _), (9, _), (10, _), (11, _)]) (by decide) rfl dL_wins_187 ?_
    refine V.lvs (lv' := [(0, _), (1, _), (2, _), (3, _), (4, _), (5, _), (6, _), (7, _), (8, _), (9, _), (10, _), (11, _), (12, _), (13, _), (14, _)]) rfl ?_
    exact L2 _ 0 rfl (Nat.zero_le _)
  have L1 : ∀ (n i : Nat), zN z 0 - i = n → i ≤ zN z 0 → ∀ f1 : Wo, TA (kG K) 3 B (fun j => mixF i (sr3 fi j) (fun _ => 0)) f1 → FrT f0 f1 → V K f1 1 6 106 [(0, .ref (al (15, 0))), (1, .int (nI m)), (2, .int 1), (3, .ref (A 0)), (4, .ref (A 1)), (5, .ref (A 6)), (6, .ref (B 0)), (7, .ref (B 1)), (8, .ref (B 2)), (9, .int 1), (10, .int (fi 9 m)), (11, .int (exI (e0I (zN z 0) m ar))), (12, .int (nI i))] [] := by
    intro n
    induction n using Nat.strongRecOn with
    | ind n ih =>
      intro i hn hi f1 hT hF
      have hR := hR.keepT hF
      have hA := hA.ft hF
      refine V_iload X rfl dL_wins_106 ?_
      refine V_aload X rfl dL_wins_108 ?_
      refine V_iconst X (v := 1) (by decide) dL_wins_110 ?_
      refine V_ald X hA 6 (1) 4 (by decide) rfl (by omega) (hI.c1) dL_wins_111 ?_
      refine V_icmp_ge X (tgt := 154) (by decide) dL_wins_112 (fun hc112 => ?_) (fun hc112 => ?_)
      · have hiN := lim_ge (N := zN z 0) rfl hc112 hi (by omega)
        rw [hiN] at hT
        refine V.lvs (lv' := [(0, _), (1, _), (2, _), (3, _), (4, _), (5, _), (6, _), (7, _), (8, _), (9, _), (10, _), (11, _)]) rfl ?_
        exact T4 _ hT hF
      · have hlt := lim_lt (N := zN z 0) rfl hc112 hi (by omega)
        refine V_aload X rfl dL_wins_115 ?_
        refine V_iload X rfl dL_wins_117 ?_
        refine V_aload_n X rfl dL_wins_119 ?_
        refine V_iload X rfl dL_wins_120 ?_
        refine V_callVp X (rest := _) (c_X5_rating_t _ _ _ al fi z hR i hlt) (hR.2.1 (15, 0) dm15) rfl gL_wins_X5_rating rfl hdv_X5_rating (Nat.le_of_ble_eq_true rfl) (Nat.le_of_ble_eq_true rfl) rfl (Nat.le_of_ble_eq_true rfl) dL_wins_122 ?_
        refine V_taS X hT 0 (i) (by decide) (by omega) dL_wins_125 (fun f hT hG => ?_)
        have hG1 := hG
        have hR := hR.keepT hG
        have hA := hA.ft hG
        refine V_aload X rfl dL_wins_126 ?_
        refine V_iload X rfl dL_wins_128 ?_
        refine V_aload_n X rfl dL_wins_130 ?_
        refine V_iload X rfl dL_wins_131 ?_
        refine V_callVp X (rest := _) (c_X5_uncertainty_t _ _ _ al fi z hR i hlt) (hR.2.1 (15, 0) dm15) rfl gL_wins_X5_uncertainty rfl hdv_X5_uncertainty (Nat.le_of_ble_eq_true rfl) (Nat.le_of_ble_eq_true rfl) rfl (Nat.le_of_ble_eq_true rfl) dL_wins_133 ?_
        refine V_taS X hT 1 (i) (by decide) (by omega) dL_wins_136 (fun f hT hG => ?_)
        have hG2 := hG
        have hR := hR.keepT hG
        have hA := hA.ft hG
        refine V_aload X rfl dL_wins_137 ?_
        refine V_iload X rfl dL_wins_139 ?_
        refine V_aload_n X rfl dL_wins_141 ?_
        refine V_iload X rfl dL_wins_142 ?_
        refine V_callVp X (rest := _) (c_X5_level_t _ _ _ al fi z hR i hlt) (hR.2.1 (15, 0) dm15) rfl gL_wins_X5_level rfl hdv_X5_level (Nat.le_of_ble_eq_true rfl) (Nat.le_of_ble_eq_true rfl) rfl (Nat.le_of_ble_eq_true rfl) dL_wins_144 ?_
        refine V_taS X hT 2 (i) (by decide) (by omega) dL_wins_147 (fun f hT hG => ?_)
        have hG3 := hG
        have hR := hR.keepT hG
        have hA := hA.ft hG
        refine V_iinc X (lv' := [(12, _), (0, _), (1, _), (2, _), (3, _), (4, _), (5, _), (6, _), (7, _), (8, _), (9, _), (10, _), (11, _)]) (v := nI (i + 1)) rfl (nI_1 _) (by decide) rfl dL_wins_148 ?_
        refine V_goto X (tgt := 106) (by decide) dL_wins_151 ?_
        refine V.lvs (lv' := [(0, _), (1, _), (2, _), (3, _), (4, _), (5, _), (6, _), (7, _), (8, _), (9, _), (10, _), (11, _), (12, _)]) rfl ?_
        exact ih (zN z 0 - (i + 1)) (by omega) (i + 1) rfl (by omega) _ (hT.cg (sr3_step fi i)) (((hF.trans hG1).trans hG2).trans hG3)
  refine V_astore X (lv' := [(8, _), (7, _), (6, _), (0, _), (1, _), (2, _), (3, _), (4, _), (5, _)]) (by decide) rfl dL_wins_16 ?_
  refine V_aload X rfl dL_wins_18 ?_
  refine V_iload_n X rfl dL_wins_20 ?_
  refine V_ald X hA 1 (m) 31 (by decide) rfl (by omega) (u3) dL_wins_21 ?_
  refine V_bipush X (v := 18) (by decide) dL_wins_22 ?_
  refine V_ishr X dL_wins_24 ?_
  refine V_iconst X (v := 3) (by decide) dL_wins_25 ?_
  refine V_iand X dL_wins_26 ?_
  refine V.top (y := nI T) (j_st hU hT4) ?_
  refine V_iconst X (v := 1) (by decide) dL_wins_27 ?_
  refine V_icmp_ne X (tgt := 35) (by decide) dL_wins_28 (fun hc28 => absurd hc28 (fun q => q (by rw [← u2, ← m13]; exact hst))) (fun hc28 => ?_)
  refine V_iconst X (v := 1) (by decide) dL_wins_31 ?_
  refine V_goto X (tgt := 36) (by decide) dL_wins_32 ?_
  refine V_istore X (lv' := [(9, _), (8, _), (7, _), (6, _), (0, _), (1, _), (2, _), (3, _), (4, _), (5, _)]) (by decide) rfl dL_wins_36 ?_
  refine V_aload_n X rfl dL_wins_38 ?_
  refine V_iload_n X rfl dL_wins_39 ?_
  refine V_iconst X (v := 0) (by decide) dL_wins_40 ?_
  refine V_callVp X (rest := _) (c_X5_team_t _ _ _ al fi z hR m hm 0 (Or.inl rfl)) (hR.2.1 (15, 0) dm15) rfl gL_wins_X5_team rfl hdv_X5_team (Nat.le_of_ble_eq_true rfl) (Nat.le_of_ble_eq_true rfl) rfl (Nat.le_of_ble_eq_true rfl) dL_wins_41 ?_
  refine V.top (y := fi 9 m) (if_pos rfl) ?_
  refine V_istore X (lv' := [(10, _), (9, _), (8, _), (7, _), (6, _), (0, _), (1, _), (2, _), (3, _), (4, _), (5, _)]) (by decide) rfl dL_wins_44 ?_
  refine V_sipush X (v := 500) (by decide) dL_wins_46 ?_
  refine V_aload_n X rfl dL_wins_49 ?_
  refine V_iload X rfl dL_wins_50 ?_
  refine V_callSp X (rest := _) (c_L_sum _ _ _ al fi z hR (fi 9 m) hs0) gL_wins_L_sum rfl hds_L_sum (Nat.le_of_ble_eq_true rfl) (Nat.le_of_ble_eq_true rfl) rfl (Nat.le_of_ble_eq_true rfl) dL_wins_52 ?_
  refine V.top (y := smI (zN z 0) (ar 11 (2 * m)) (ar 1)) (hsm0) ?_
  refine V_iconst X (v := 3) (by decide) dL_wins_55 ?_
  refine V_idiv X (by decide) dL_wins_56 ?_
  refine V_iadd X dL_wins_57 ?_
  refine V_aload_n X rfl dL_wins_58 ?_
  refine V_aload_n X rfl dL_wins_59 ?_
  refine V_iload_n X rfl dL_wins_60 ?_
  refine V_iconst X (v := 1) (by decide) dL_wins_61 ?_
  refine V_callVp X (rest := _) (c_X5_team_t _ _ _ al fi z hR m hm 1 (Or.inr rfl)) (hR.2.1 (15, 0) dm15) rfl gL_wins_X5_team rfl hdv_X5_team (Nat.le_of_ble_eq_true rfl) (Nat.le_of_ble_eq_true rfl) rfl (Nat.le_of_ble_eq_true rfl) dL_wins_62 ?_
  refine V.top (y := fi 10 m) (if_neg (by decide)) ?_
  refine V_callSp X (rest := _) (c_L_sum _ _ _ al fi z hR (fi 10 m) hs1) gL_wins_L_sum rfl hds_L_sum (Nat.le_of_ble_eq_true rfl) (Nat.le_of_ble_eq_true rfl) rfl (Nat.le_of_ble_eq_true rfl) dL_wins_65 ?_
  refine V.top (y := smI (zN z 0) (ar 11 (2 * m + 1)) (ar 1)) (hsm1) ?_
  refine V_iconst X (v := 3) (by decide) dL_wins_68 ?_
  refine V_idiv X (by decide) dL_wins_69 ?_
  refine V_isub X dL_wins_70 ?_
  refine V.top (y := e0I (zN z 0) m ar) (rfl) ?_
  refine V_istore X (lv' := [(11, _), (10, _), (9, _), (8, _), (7, _), (6, _), (0, _), (1, _), (2, _), (3, _), (4, _), (5, _)]) (by decide) rfl dL_wins_71 ?_
  refine V.join (P := fun v9 => v9 = (exI (e0I (zN z 0) m ar))) 101 (fun w101 hw101 => ?_) (fun hj101 => ?_)
  · subst hw101
    refine V_istore X (lv' := [(11, _), (10, _), (9, _), (8, _), (7, _), (6, _), (0, _), (1, _), (2, _), (3, _), (4, _), (5, _)]) (by decide) rfl dL_wins_101 ?_
    refine V_iconst X (v := 0) (by decide) dL_wins_103 ?_
    refine V_istore X (lv' := [(12, _), (11, _), (10, _), (9, _), (8, _), (7, _), (6, _), (0, _), (1, _), (2, _), (3, _), (4, _), (5, _)]) (by decide) rfl dL_wins_104 ?_
    refine V.lvs (lv' := [(0, _), (1, _), (2, _), (3, _), (4, _), (5, _), (6, _), (7, _), (8, _), (9, _), (10, _), (11, _), (12, _)]) rfl ?_
    exact L1 _ 0 rfl (Nat.zero_le _) _ hTT FrT.rf
  · refine V_iload X rfl dL_wins_73 ?_
    refine V_bipush X (v := 50) (by decide) dL_wins_75 ?_
    refine V_icmp_ge X (tgt := 85) (by decide) dL_wins_77 (fun hc77 => ?_) (fun hc77 => ?_)
    · refine V_iload X rfl dL_wins_85 ?_
      refine V_sipush X (v := 950) (by decide) dL_wins_87 ?_
      refine V_icmp_le X (tgt := 99) (by decide) dL_wins_90 (fun hc90 => ?_) (fun hc90 => ?_)
      · refine V_iload X rfl dL_wins_99 ?_
        exact hj101 _ ((by show _ = exI (e0I (zN z 0) m ar); unfold exI; rw [if_pos hc77, if_pos hc90]))
      · refine V_sipush X (v := 950) (by decide) dL_wins_93 ?_
        refine V_goto X (tgt := 101) (by decide) dL_wins_96 ?_
        exact hj101 _ ((by show _ = exI (e0I (zN z 0) m ar); unfold exI; rw [if_pos hc77, if_neg hc90]))
    · refine V_bipush X (v := 50) (by decide) dL_wins_80 ?_
      refine V_goto X (tgt := 101) (by decide) dL_wins_82 ?_
      exact hj101 _ ((by show _ = exI (e0I (zN z 0) m ar); unfold exI; rw [if_neg hc77]))
set_option maxHeartbeats 4000000 in
set_option maxRecDepth 100000 in
theorem c_L_wins_n1 (l : Launch) (hl : l.stackTraces = false) (G : GG) (f : Wo) (al : Tg → Nat) (fi : Nat → Nat → Int32) (z : CZ) (hR : RC G al fi z f) (A : Nat → Nat) (lq : Nat → Int64) (la : Nat → Nat → Int32) (hA : LA G A lq la f) (c : Nat) (sc : Nat → Int32) (ar : Nat → Nat → Int32) (hS : SM c fi z sc ar) (hB : BR ar) (P S Q M : Nat → Nat) (hI : IV c (zN z 0) (zN z 1) (zN z 2) ar lq la P S Q M) (m : Nat) (hm : m < zN z 2) (hst : ¬ fi 13 m = 1) : Ct l yL_wins wsL_wins 15 296 G [.ref (al (15, 0)), .int (nI m), .int 1, .ref (A 0), .ref (A 1), .ref (A 6)] f (fun r f' => r = some (.int 1) ∧ LW G A (al (15, 0)) f' c (zN z 0) (zN z 1) (zN z 2)) 4 60 := by
  refine Ct.of (cc := cL_wins) (maxL := 21) (ret := (some .boolean)) (by decide) rfl (Nat.le_of_ble_eq_true rfl) (lv := [(0, _), (1, _), (2, _), (3, _), (4, _), (5, _)]) rfl (by simp [Value.category]) ?_
  intro K X hL hG hr hnm
  subst hL; subst hG
  have h18 := hI.np
  have h60 := hI.nt
  have h30 := hI.nm
  have h2k := hI.cc
  obtain ⟨⟨U, T, hU, hT4, u1, u2, u3⟩, u4, u5, b0, b1, -⟩ := hI.ma hm
  obtain ⟨g9, g10, -, m13, -⟩ := hS.mt hm
  have hs0 : ∀ k, k < 18 → hsI (fi 9 m) (nI k) = true → k < zN z 0 := fun k hk h => Nat.lt_of_not_le fun q => by rw [g9, q_bw_h b0 q (by omega)] at h; cases h
  have hs1 : ∀ k, k < 18 → hsI (fi 10 m) (nI k) = true → k < zN z 0 := fun k hk h => Nat.lt_of_not_le fun q => by rw [g10, q_bw_h b1 q (by omega)] at h; cases h
  have hsm0 : smI 18 (fi 9 m) (fi 1) = smI (zN z 0) (ar 11 (2 * m)) (ar 1) := by rw [g9]; exact sm_np b0 h18 (fun k hk => (hS.pl hk).1)
  have hsm1 : smI 18 (fi 10 m) (fi 1) = smI (zN z 0) (ar 11 (2 * m + 1)) (ar 1) := by rw [g10]; exact sm_np b1 h18 (fun k hk => (hS.pl hk).1)
  refine V_bipush X (v := 18) (by decide) dL_wins_0 ?_
  refine V_newT X (kc' := 3) (ks' := 42) (N := 18) (42, 0) (by decide +kernel) (by decide) (by decide) (by decide) (by omega) (by omega) dL_wins_2 (fun q0 f2 hN0 hT0 => ?_)
  refine V_astore X (lv' := [(6, _), (0, _), (1, _), (2, _), (3, _), (4, _), (5, _)]) (by decide) rfl dL_wins_4 ?_
  refine V_bipush X (v := 18) (by decide) dL_wins_6 ?_
  refine V_newT X (kc' := 2) (ks' := 24) (N := 18) (42, 1) (by decide +kernel) (by decide) (by decide) (by decide) (by omega) (by omega) dL_wins_8 (fun q1 f3 hN1 hT1 => ?_)
  refine V_astore X (lv' := [(7, _), (6, _), (0, _), (1, _), (2, _), (3, _), (4, _), (5, _)]) (by decide) rfl dL_wins_10 ?_
  refine V_bipush X (v := 18) (by decide) dL_wins_12 ?_
  refine V_newT X (kc' := 1) (ks' := 6) (N := 18) (42, 2) (by decide +kernel) (by decide) (by decide) (by decide) (by omega) (by omega) dL_wins_14 (fun q2 f0 hN2 hT2 => ?_)
  have hNN : FrN f f0 := (hN0.trans hN1).trans hN2
  have hR := hR.keepA hNN.a
  have hA := hA.fr hNN.c
  obtain ⟨B, hB0, hB1, hB2⟩ : ∃ B : Nat → Nat, B 0 = q0 ∧ B 1 = q1 ∧ B 2 = q2 := ⟨fun j => if j = 0 then q0 else if j = 1 then q1 else q2, rfl, rfl, rfl⟩
  have hTT : TA (kG K) 3 B (fun j => mixF 0 (sr3 fi j) (fun _ => 0)) f0 := fun j hj => by
      show f0 (B j) = some ((42, j), oI (kG K) 18 (mixF 0 (sr3 fi j) (fun _ => 0)))
      rw [mixF_0]
      rcases (show j = 0 ∨ j = 1 ∨ j = 2 by omega) with h | h | h
      · subst h; rw [hB0]; exact hN2 _ _ (hN1 _ _ hT0)
      · subst h; rw [hB1]; exact hN2 _ _ hT1
      · subst h; rw [hB2]; exact hT2
  clear hNN hN0 hN1 hN2 hT0 hT1 hT2
  rw [← hB0, ← hB1, ← hB2]
  have T4 : ∀ f1 : Wo, TA (kG K) 3 B (fun j => mixF (zN z 0) (sr3 fi j) (fun _ => 0)) f1 → FrT f0 f1 → V K f1 1 6 154 [(0, .ref (al (15, 0))), (1, .int (nI m)), (2, .int 1), (3, .ref (A 0)), (4, .ref (A 1)), (5, .ref (A 6)), (6, .ref (B 0)), (7, .ref (B 1)), (8, .ref (B 2)), (9, .int 0), (10, .int (fi 9 m)), (11, .int (exI (e0I (zN z 0) m ar)))] [] := by
    intro f1 hT hF
    have hR := hR.keepT hF
    have hA := hA.ft hF
    refine V_aload_n X rfl dL_wins_154 ?_
    refine V_iconst X (v := 4) (by decide) dL_wins_155 ?_
    refine V_iload_n X rfl dL_wins_156 ?_
    refine V_iload_n X rfl dL_wins_157 ?_
    refine V_callSH (kc' := 0) (ks' := 0) X (rest := _) (c_L_asks_f_s _ hl _ _ al fi z hR m hm 1 (by decide) hst) gL_wins_L_asks rfl hds_L_asks (Nat.le_of_ble_eq_true rfl) (Nat.le_of_ble_eq_true rfl) rfl (Nat.le_of_ble_eq_true rfl) (by omega) (by omega) dL_wins_158 (fun r9 f9 h9 => ?_)
    obtain ⟨rfl, h9e⟩ := h9
    have h9f := h9e.symm
    subst h9f
    have T5 : V K f1 0 0 467 [(0, .ref (al (15, 0))), (1, .int (nI m)), (2, .int 1), (3, .ref (A 0)), (4, .ref (A 1)), (5, .ref (A 6)), (6, .ref (B 0)), (7, .ref (B 1)), (8, .ref (B 2)), (9, .int 0), (10, .int (fi 9 m)), (11, .int (exI (e0I (zN z 0) m ar))), (12, .int (-8)), (13, .int 1)] [] := by
      refine V_iload X rfl dL_wins_467 ?_
      refine V_if_eq X (tgt := 538) (by decide) dL_wins_469 (fun hc469 => ?_) (fun hc469 => absurd hc469 (by decide))
      refine V_iload X rfl dL_wins_538 ?_
      exact V_zret X hr (by decide) (⟨rfl, al, fi, z, sc, ar, lq, la, P, S, Q, M, rfl, hR, hA, hS, hB, rfl, rfl, rfl, hI⟩) dL_wins_540
    have L2 : ∀ (n i : Nat), zN z 0 - i = n → i ≤ zN z 0 → V K f1 0 0 189 [(0, .ref (al (15, 0))), (1, .int (nI m)), (2, .int 1), (3, .ref (A 0)), (4, .ref (A 1)), (5, .ref (A 6)), (6, .ref (B 0)), (7, .ref (B 1)), (8, .ref (B 2)), (9, .int 0), (10, .int (fi 9 m)), (11, .int (exI (e0I (zN z 0) m ar))), (12, .int (-8)), (13, .int 1), (14, .int (nI i))] [] := by
      intro n
      induction n using Nat.strongRecOn with
      | ind n ih =>
        intro i hn hi
        refine V_iload X rfl dL_wins_189 ?_
        refine V_aload X rfl dL_wins_191 ?_
        refine V_iconst X (v := 1) (by decide) dL_wins_193 ?_
        refine V_ald X hA 6 (1) 4 (by decide) rfl (by omega) (hI.c1) dL_wins_194 ?_
        refine V_icmp_ge X (tgt := 467) (by decide) dL_wins_195 (fun hc195 => ?_) (fun hc195 => ?_)
        · refine V.lvs (lv' := [(0, _), (1, _), (2, _), (3, _), (4, _), (5, _), (6, _), (7, _), (8, _), (9, _), (10, _), (11, _), (12, _), (13, _)]) rfl ?_
          exact T5
        · have hlt := lim_lt (N := zN z 0) rfl hc195 hi (by omega)
          obtain ⟨e1, e2, e3, e4, e6, e5, ⟨v, hv5, hv⟩, -⟩ := hS.pl hlt
          obtain ⟨-, -, ⟨R, hR1, hR2⟩, D, hD1, hD2, hD3⟩ := hI.pl hlt
          have hbd : -400000 ≤ (ar 2 i * (shI (ar 11 (2 * m)) 1 (exI (e0I (zN z 0) m ar)) i)).toInt ∧ (ar 2 i * (shI (ar 11 (2 * m)) 1 (exI (e0I (zN z 0) m ar)) i)).toInt ≤ 400000 := by rw [hD3]; exact sh_bd hD2 (shI_bd _ _ _ _).1 (shI_bd _ _ _ _).2
          have hsz : hsI (ar 11 (2 * m)) (nI i) = true → (shI (ar 11 (2 * m)) 1 (exI (e0I (zN z 0) m ar)) i) = 0 - (exI (e0I (zN z 0) m ar)) := fun q => by unfold shI tmI; rw [q]; rfl
          have hsn : hsI (ar 11 (2 * m)) (nI i) = false → (shI (ar 11 (2 * m)) 1 (exI (e0I (zN z 0) m ar)) i) = 1000 - (1000 - (exI (e0I (zN z 0) m ar))) := fun q => by unfold shI tmI; rw [q]; rfl
          have hcs : hsI (ar 11 (2 * m)) (nI i) = true ∨ hsI (ar 11 (2 * m)) (nI i) = false := by cases hsI (ar 11 (2 * m)) (nI i) <;> simp
          have hg1n := e1
          have hg2n := e2
          have hg3n := e4
          rcases hcs with hzz | hzz
          · refine V_iload X rfl dL_wins_198 ?_
            refine V_if_eq X (tgt := 467) (by decide) dL_wins_200 (fun hc200 => absurd hc200 (by decide)) (fun hc200 => ?_)
            refine V_iload X rfl dL_wins_203 ?_
            refine V_if_eq X (tgt := 224) (by decide) dL_wins_205 (fun hc205 => ?_) (fun hc205 => absurd hc205 (by decide))
            refine V_iconst X (v := 0) (by decide) dL_wins_224 ?_
            refine V_istore X (lv' := [(15, _), (0, _), (1, _), (2, _), (3, _), (4, _), (5, _), (6, _), (7, _), (8, _), (9, _), (10, _), (11, _), (12, _), (13, _), (14, _)]) (by decide) rfl dL_wins_225 ?_
            refine V_iload X rfl dL_wins_227 ?_
            refine V_iload X rfl dL_wins_229 ?_
            refine V_callSp X (rest := _) (c_L_has _ _ _ _ _) gL_wins_L_has rfl hds_L_has (Nat.le_of_ble_eq_true rfl) (Nat.le_of_ble_eq_true rfl) rfl (Nat.le_of_ble_eq_true rfl) dL_wins_231 ?_
            refine V.top (y := 1) (by rw [g9, hzz]; rfl) ?_
            refine V_iload_n X rfl dL_wins_234 ?_
            refine V_if_ne X (tgt := 242) (by decide) dL_wins_235 (fun hc235 => ?_) (fun hc235 => absurd hc235 (by decide))
            refine V_iconst X (v := 0) (by decide) dL_wins_242 ?_
            refine V_icmp_ne X (tgt := 252) (by decide) dL_wins_243 (fun hc243 => ?_) (fun hc243 => absurd hc243 (by decide))
            refine V_iconst X (v := 0) (by decide) dL_wins_252 ?_
            refine V_istore X (lv' := [(16, _), (15, _), (0, _), (1, _), (2, _), (3, _), (4, _), (5, _), (6, _), (7, _), (8, _), (9, _), (10, _), (11, _), (12, _), (13, _), (14, _)]) (by decide) rfl dL_wins_253 ?_
            refine V_aload X rfl dL_wins_255 ?_
            refine V_iload X rfl dL_wins_257 ?_
            refine V_taL X hT 1 (i) (by decide) (by omega) (mixF_e hlt e2) dL_wins_259 ?_
            refine V_iload X rfl dL_wins_260 ?_
            refine V_iload X rfl dL_wins_262 ?_
            refine V_iload X rfl dL_wins_264 ?_
            refine V_callSp X (rest := _) (c_L_has _ _ _ _ _) gL_wins_L_has rfl hds_L_has (Nat.le_of_ble_eq_true rfl) (Nat.le_of_ble_eq_true rfl) rfl (Nat.le_of_ble_eq_true rfl) dL_wins_266 ?_
            refine V.top (y := 1) (by rw [g9, hzz]; rfl) ?_
            refine V_if_eq X (tgt := 277) (by decide) dL_wins_269 (fun hc269 => absurd hc269 (by decide)) (fun hc269 => ?_)
            refine V_iload X rfl dL_wins_272 ?_
            refine V_goto X (tgt := 283) (by decide) dL_wins_274 ?_
            refine V_isub X dL_wins_283 ?_
            refine V_imul X dL_wins_284 ?_
            refine V.top (y := ar 2 i * (shI (ar 11 (2 * m)) 1 (exI (e0I (zN z 0) m ar)) i)) ((congrArg (ar 2 i * ·) (hsz hzz)).symm) ?_
            refine V_istore X (lv' := [(17, _), (16, _), (15, _), (0, _), (1, _), (2, _), (3, _), (4, _), (5, _), (6, _), (7, _), (8, _), (9, _), (10, _), (11, _), (12, _), (13, _), (14, _)]) (by decide) rfl dL_wins_285 ?_
            refine V_iload X rfl dL_wins_287 ?_
            refine V_ldc X (v := 8000000) (by decide +kernel) dL_wins_289 ?_
            refine V_iadd X dL_wins_291 ?_
            refine V_sipush X (v := 8000) (by decide) dL_wins_292 ?_
            refine V_idiv X (by decide) dL_wins_295 ?_
            refine V_sipush X (v := 1000) (by decide) dL_wins_296 ?_
            refine V_isub X dL_wins_299 ?_
            refine V.top (y := downI (ar 2 i * (shI (ar 11 (2 * m)) 1 (exI (e0I (zN z 0) m ar)) i)) 8000) ((downI_8000 hbd.1 hbd.2).symm) ?_
            refine V_istore X (lv' := [(18, _), (17, _), (16, _), (15, _), (0, _), (1, _), (2, _), (3, _), (4, _), (5, _), (6, _), (7, _), (8, _), (9, _), (10, _), (11, _), (12, _), (13, _), (14, _)]) (by decide) rfl dL_wins_300 ?_
            refine V_aload X rfl dL_wins_302 ?_
            refine V_iload X rfl dL_wins_304 ?_
            refine V_taL X hT 0 (i) (by decide) (by omega) (mixF_e hlt e1) dL_wins_306 ?_
            refine V_iload X rfl dL_wins_307 ?_
            refine V_if_eq X (tgt := 317) (by decide) dL_wins_309 (fun hc309 => ?_) (fun hc309 => absurd hc309 (by decide))
            refine V_iconst X (v := 0) (by decide) dL_wins_317 ?_
            refine V_iadd X dL_wins_318 ?_
            refine V.top (y := ar 1 i) (Int32.add_zero _) ?_
            refine V_istore X (lv' := [(19, _), (18, _), (17, _), (16, _), (15, _), (0, _), (1, _), (2, _), (3, _), (4, _), (5, _), (6, _), (7, _), (8, _), (9, _), (10, _), (11, _), (12, _), (13, _), (14, _)]) (by decide) rfl dL_wins_319 ?_
            refine V.join (P := fun v9 => v9 = clI (ar 1 i)) 346 (fun w346 hw346 => ?_) (fun hj346 => ?_)
            · subst hw346
              refine V_istore X (lv' := [(19, _), (18, _), (17, _), (16, _), (15, _), (0, _), (1, _), (2, _), (3, _), (4, _), (5, _), (6, _), (7, _), (8, _), (9, _), (10, _), (11, _), (12, _), (13, _), (14, _)]) (by decide) rfl dL_wins_346 ?_
              refine V.join (P := fun v9 => v9 = nuI (ar 2 i)) 380 (fun w380 hw380 => ?_) (fun hj380 => ?_)
              · subst hw380
                refine V_istore X (lv' := [(20, _), (19, _), (18, _), (17, _), (16, _), (15, _), (0, _), (1, _), (2, _), (3, _), (4, _), (5, _), (6, _), (7, _), (8, _), (9, _), (10, _), (11, _), (12, _), (13, _), (14, _)]) (by decide) rfl dL_wins_380 ?_
                refine V_aload_n X rfl dL_wins_382 ?_
                refine V_iload X rfl dL_wins_383 ?_
                refine V_callVp X (rest := _) (c_X5_rating_t _ _ _ al _ z hR i hlt) (hR.2.1 (15, 0) dm15) rfl gL_wins_X5_rating rfl hdv_X5_rating (Nat.le_of_ble_eq_true rfl) (Nat.le_of_ble_eq_true rfl) rfl (Nat.le_of_ble_eq_true rfl) dL_wins_385 ?_
                refine V.top (y := clI (ar 1 i)) ((hg1n ).trans (by rw [hR2, clI_id hR1])) ?_
                refine V_iload X rfl dL_wins_388 ?_
                refine V_icmp_ne X (tgt := 458) (by decide) dL_wins_390 (fun hc390 => absurd hc390 (fun q => q rfl)) (fun hc390 => ?_)
                refine V_aload_n X rfl dL_wins_393 ?_
                refine V_iload X rfl dL_wins_394 ?_
                refine V_callVp X (rest := _) (c_X5_uncertainty_t _ _ _ al _ z hR i hlt) (hR.2.1 (15, 0) dm15) rfl gL_wins_X5_uncertainty rfl hdv_X5_uncertainty (Nat.le_of_ble_eq_true rfl) (Nat.le_of_ble_eq_true rfl) rfl (Nat.le_of_ble_eq_true rfl) dL_wins_396 ?_
                refine V.top (y := ar 2 i) (hg2n ) ?_
                refine V_iload X rfl dL_wins_399 ?_
                refine V_if_eq X (tgt := 409) (by decide) dL_wins_401 (fun hc401 => ?_) (fun hc401 => absurd hc401 (by decide))
                refine V_aload X rfl dL_wins_409 ?_
                refine V_iload X rfl dL_wins_411 ?_
                refine V_taL X hT 1 (i) (by decide) (by omega) (mixF_e hlt e2) dL_wins_413 ?_
                refine V_icmp_ne X (tgt := 458) (by decide) dL_wins_414 (fun hc414 => absurd hc414 (fun q => q rfl)) (fun hc414 => ?_)
                refine V_aload_n X rfl dL_wins_417 ?_
                refine V_iload X rfl dL_wins_418 ?_
                refine V_callVp X (rest := _) (c_X5_level_t _ _ _ al _ z hR i hlt) (hR.2.1 (15, 0) dm15) rfl gL_wins_X5_level rfl hdv_X5_level (Nat.le_of_ble_eq_true rfl) (Nat.le_of_ble_eq_true rfl) rfl (Nat.le_of_ble_eq_true rfl) dL_wins_420 ?_
                refine V.top (y := ar 4 i) (hg3n ) ?_
                refine V_iload X rfl dL_wins_423 ?_
                refine V_if_eq X (tgt := 446) (by decide) dL_wins_425 (fun hc425 => ?_) (fun hc425 => absurd hc425 (by decide))
                refine V_aload X rfl dL_wins_446 ?_
                refine V_iload X rfl dL_wins_448 ?_
                refine V_taL X hT 2 (i) (by decide) (by omega) (mixF_e hlt e4) dL_wins_450 ?_
                refine V_icmp_ne X (tgt := 458) (by decide) dL_wins_451 (fun hc451 => absurd hc451 (fun q => q rfl)) (fun hc451 => ?_)
                refine V_iconst X (v := 1) (by decide) dL_wins_454 ?_
                refine V_goto X (tgt := 459) (by decide) dL_wins_455 ?_
                refine V_istore X (lv' := [(13, _), (20, _), (19, _), (18, _), (17, _), (16, _), (15, _), (0, _), (1, _), (2, _), (3, _), (4, _), (5, _), (6, _), (7, _), (8, _), (9, _), (10, _), (11, _), (12, _), (14, _)]) (by decide) rfl dL_wins_459 ?_
                refine V_iinc X (lv' := [(14, _), (13, _), (20, _), (19, _), (18, _), (17, _), (16, _), (15, _), (0, _), (1, _), (2, _), (3, _), (4, _), (5, _), (6, _), (7, _), (8, _), (9, _), (10, _), (11, _), (12, _)]) (v := nI (i + 1)) rfl (nI_1 _) (by decide) rfl dL_wins_461 ?_
                refine V_goto X (tgt := 189) (by decide) dL_wins_464 ?_
                refine V.lvs (lv' := [(0, _), (1, _), (2, _), (3, _), (4, _), (5, _), (6, _), (7, _), (8, _), (9, _), (10, _), (11, _), (12, _), (13, _), (14, _)]) rfl ?_
                exact ih (zN z 0 - (i + 1)) (by omega) (i + 1) rfl (by omega)
              · refine V_aload X rfl dL_wins_348 ?_
                refine V_iload X rfl dL_wins_350 ?_
                refine V_taL X hT 1 (i) (by decide) (by omega) (mixF_e hlt e2) dL_wins_352 ?_
                refine V_bipush X (v := 9) (by decide) dL_wins_353 ?_
                refine V_imul X dL_wins_355 ?_
                refine V_bipush X (v := 10) (by decide) dL_wins_356 ?_
                refine V_idiv X (by decide) dL_wins_358 ?_
                refine V_bipush X (v := 50) (by decide) dL_wins_359 ?_
                refine V_icmp_ge X (tgt := 369) (by decide) dL_wins_361 (fun hc361 => ?_) (fun hc361 => ?_)
                · refine V_aload X rfl dL_wins_369 ?_
                  refine V_iload X rfl dL_wins_371 ?_
                  refine V_taL X hT 1 (i) (by decide) (by omega) (mixF_e hlt e2) dL_wins_373 ?_
                  refine V_bipush X (v := 9) (by decide) dL_wins_374 ?_
                  refine V_imul X dL_wins_376 ?_
                  refine V_bipush X (v := 10) (by decide) dL_wins_377 ?_
                  refine V_idiv X (by decide) dL_wins_379 ?_
                  exact hj380 _ ((by unfold nuI; rw [if_pos hc361]))
                · refine V_bipush X (v := 50) (by decide) dL_wins_364 ?_
                  refine V_goto X (tgt := 380) (by decide) dL_wins_366 ?_
                  exact hj380 _ ((by unfold nuI; rw [if_neg hc361]))
            · refine V_iload X rfl dL_wins_321 ?_
              refine V_if_ge X (tgt := 330) (by decide) dL_wins_323 (fun hc323 => ?_) (fun hc323 => ?_)
              · refine V_iload X rfl dL_wins_330 ?_
                refine V_sipush X (v := 4000) (by decide) dL_wins_332 ?_
                refine V_icmp_le X (tgt := 344) (by decide) dL_wins_335 (fun hc335 => ?_) (fun hc335 => ?_)
                · refine V_iload X rfl dL_wins_344 ?_
                  exact hj346 _ ((by unfold clI; rw [if_pos hc323, if_pos hc335]))
                · refine V_sipush X (v := 4000) (by decide) dL_wins_338 ?_
                  refine V_goto X (tgt := 346) (by decide) dL_wins_341 ?_
                  exact hj346 _ ((by unfold clI; rw [if_pos hc323, if_neg hc335]))
              · refine V_iconst X (v := 0) (by decide) dL_wins_326 ?_
                refine V_goto X (tgt := 346) (by decide) dL_wins_327 ?_
                exact hj346 _ ((by unfold clI; rw [if_neg (Int32.not_le.mpr (Int32.not_le.mp hc323))]))
          · refine V_iload X rfl dL_wins_198 ?_
            refine V_if_eq X (tgt := 467) (by decide) dL_wins_200 (fun hc200 => absurd hc200 (by decide)) (fun hc200 => ?_)
            refine V_iload X rfl dL_wins_203 ?_
            refine V_if_eq X (tgt := 224) (by decide) dL_wins_205 (fun hc205 => ?_) (fun hc205 => absurd hc205 (by decide))
            refine V_iconst X (v := 0) (by decide) dL_wins_224 ?_
            refine V_istore X (lv' := [(15, _), (0, _), (1, _), (2, _), (3, _), (4, _), (5, _), (6, _), (7, _), (8, _), (9, _), (10, _), (11, _), (12, _), (13, _), (14, _)]) (by decide) rfl dL_wins_225 ?_
            refine V_iload X rfl dL_wins_227 ?_
            refine V_iload X rfl dL_wins_229 ?_
            refine V_callSp X (rest := _) (c_L_has _ _ _ _ _) gL_wins_L_has rfl hds_L_has (Nat.le_of_ble_eq_true rfl) (Nat.le_of_ble_eq_true rfl) rfl (Nat.le_of_ble_eq_true rfl) dL_wins_231 ?_
            refine V.top (y := 0) (by rw [g9, hzz]; rfl) ?_
            refine V_iload_n X rfl dL_wins_234 ?_
            refine V_if_ne X (tgt := 242) (by decide) dL_wins_235 (fun hc235 => ?_) (fun hc235 => absurd hc235 (by decide))
            refine V_iconst X (v := 0) (by decide) dL_wins_242 ?_
            refine V_icmp_ne X (tgt := 252) (by decide) dL_wins_243 (fun hc243 => absurd hc243 (by decide)) (fun hc243 => ?_)
            refine V_sipush X (v := 1000) (by decide) dL_wins_246 ?_
            refine V_goto X (tgt := 253) (by decide) dL_wins_249 ?_
            refine V_istore X (lv' := [(16, _), (15, _), (0, _), (1, _), (2, _), (3, _), (4, _), (5, _), (6, _), (7, _), (8, _), (9, _), (10, _), (11, _), (12, _), (13, _), (14, _)]) (by decide) rfl dL_wins_253 ?_
            refine V_aload X rfl dL_wins_255 ?_
            refine V_iload X rfl dL_wins_257 ?_
            refine V_taL X hT 1 (i) (by decide) (by omega) (mixF_e hlt e2) dL_wins_259 ?_
            refine V_iload X rfl dL_wins_260 ?_
            refine V_iload X rfl dL_wins_262 ?_
            refine V_iload X rfl dL_wins_264 ?_
            refine V_callSp X (rest := _) (c_L_has _ _ _ _ _) gL_wins_L_has rfl hds_L_has (Nat.le_of_ble_eq_true rfl) (Nat.le_of_ble_eq_true rfl) rfl (Nat.le_of_ble_eq_true rfl) dL_wins_266 ?_
            refine V.top (y := 0) (by rw [g9, hzz]; rfl) ?_
            refine V_if_eq X (tgt := 277) (by decide) dL_wins_269 (fun hc269 => ?_) (fun hc269 => absurd hc269 (by decide))
            refine V_sipush X (v := 1000) (by decide) dL_wins_277 ?_
            refine V_iload X rfl dL_wins_280 ?_
            refine V_isub X dL_wins_282 ?_
            refine V_isub X dL_wins_283 ?_
            refine V_imul X dL_wins_284 ?_
            refine V.top (y := ar 2 i * (shI (ar 11 (2 * m)) 1 (exI (e0I (zN z 0) m ar)) i)) ((congrArg (ar 2 i * ·) (hsn hzz)).symm) ?_
            refine V_istore X (lv' := [(17, _), (16, _), (15, _), (0, _), (1, _), (2, _), (3, _), (4, _), (5, _), (6, _), (7, _), (8, _), (9, _), (10, _), (11, _), (12, _), (13, _), (14, _)]) (by decide) rfl dL_wins_285 ?_
            refine V_iload X rfl dL_wins_287 ?_
            refine V_ldc X (v := 8000000) (by decide +kernel) dL_wins_289 ?_
            refine V_iadd X dL_wins_291 ?_
            refine V_sipush X (v := 8000) (by decide) dL_wins_292 ?_
            refine V_idiv X (by decide) dL_wins_295 ?_
            refine V_sipush X (v := 1000) (by decide) dL_wins_296 ?_
            refine V_isub X dL_wins_299 ?_
            refine V.top (y := downI (ar 2 i * (shI (ar 11 (2 * m)) 1 (exI (e0I (zN z 0) m ar)) i)) 8000) ((downI_8000 hbd.1 hbd.2).symm) ?_
            refine V_istore X (lv' := [(18, _), (17, _), (16, _), (15, _), (0, _), (1, _), (2, _), (3, _), (4, _), (5, _), (6, _), (7, _), (8, _), (9, _), (10, _), (11, _), (12, _), (13, _), (14, _)]) (by decide) rfl dL_wins_300 ?_
            refine V_aload X rfl dL_wins_302 ?_
            refine V_iload X rfl dL_wins_304 ?_
            refine V_taL X hT 0 (i) (by decide) (by omega) (mixF_e hlt e1) dL_wins_306 ?_
            refine V_iload X rfl dL_wins_307 ?_
            refine V_if_eq X (tgt := 317) (by decide) dL_wins_309 (fun hc309 => ?_) (fun hc309 => absurd hc309 (by decide))
            refine V_iconst X (v := 0) (by decide) dL_wins_317 ?_
            refine V_iadd X dL_wins_318 ?_
            refine V.top (y := ar 1 i) (Int32.add_zero _) ?_
            refine V_istore X (lv' := [(19, _), (18, _), (17, _), (16, _), (15, _), (0, _), (1, _), (2, _), (3, _), (4, _), (5, _), (6, _), (7, _), (8, _), (9, _), (10, _), (11, _), (12, _), (13, _), (14, _)]) (by decide) rfl dL_wins_319 ?_
            refine V.join (P := fun v9 => v9 = clI (ar 1 i)) 346 (fun w346 hw346 => ?_) (fun hj346 => ?_)
            · subst hw346
              refine V_istore X (lv' := [(19, _), (18, _), (17, _), (16, _), (15, _), (0, _), (1, _), (2, _), (3, _), (4, _), (5, _), (6, _), (7, _), (8, _), (9, _), (10, _), (11, _), (12, _), (13, _), (14, _)]) (by decide) rfl dL_wins_346 ?_
              refine V.join (P := fun v9 => v9 = nuI (ar 2 i)) 380 (fun w380 hw380 => ?_) (fun hj380 => ?_)
              · subst hw380
                refine V_istore X (lv' := [(20, _), (19, _), (18, _), (17, _), (16, _), (15, _), (0, _), (1, _), (2, _), (3, _), (4, _), (5, _), (6, _), (7, _), (8, _), (9, _), (10, _), (11, _), (12, _), (13, _), (14, _)]) (by decide) rfl dL_wins_380 ?_
                refine V_aload_n X rfl dL_wins_382 ?_
                refine V_iload X rfl dL_wins_383 ?_
                refine V_callVp X (rest := _) (c_X5_rating_t _ _ _ al _ z hR i hlt) (hR.2.1 (15, 0) dm15) rfl gL_wins_X5_rating rfl hdv_X5_rating (Nat.le_of_ble_eq_true rfl) (Nat.le_of_ble_eq_true rfl) rfl (Nat.le_of_ble_eq_true rfl) dL_wins_385 ?_
                refine V.top (y := clI (ar 1 i)) ((hg1n ).trans (by rw [hR2, clI_id hR1])) ?_
                refine V_iload X rfl dL_wins_388 ?_
                refine V_icmp_ne X (tgt := 458) (by decide) dL_wins_390 (fun hc390 => absurd hc390 (fun q => q rfl)) (fun hc390 => ?_)
                refine V_aload_n X rfl dL_wins_393 ?_
                refine V_iload X rfl dL_wins_394 ?_
                refine V_callVp X (rest := _) (c_X5_uncertainty_t _ _ _ al _ z hR i hlt) (hR.2.1 (15, 0) dm15) rfl gL_wins_X5_uncertainty rfl hdv_X5_uncertainty (Nat.le_of_ble_eq_true rfl) (Nat.le_of_ble_eq_true rfl) rfl (Nat.le_of_ble_eq_true rfl) dL_wins_396 ?_
                refine V.top (y := ar 2 i) (hg2n ) ?_
                refine V_iload X rfl dL_wins_399 ?_
                refine V_if_eq X (tgt := 409) (by decide) dL_wins_401 (fun hc401 => ?_) (fun hc401 => absurd hc401 (by decide))
                refine V_aload X rfl dL_wins_409 ?_
                refine V_iload X rfl dL_wins_411 ?_
                refine V_taL X hT 1 (i) (by decide) (by omega) (mixF_e hlt e2) dL_wins_413 ?_
                refine V_icmp_ne X (tgt := 458) (by decide) dL_wins_414 (fun hc414 => absurd hc414 (fun q => q rfl)) (fun hc414 => ?_)
                refine V_aload_n X rfl dL_wins_417 ?_
                refine V_iload X rfl dL_wins_418 ?_
                refine V_callVp X (rest := _) (c_X5_level_t _ _ _ al _ z hR i hlt) (hR.2.1 (15, 0) dm15) rfl gL_wins_X5_level rfl hdv_X5_level (Nat.le_of_ble_eq_true rfl) (Nat.le_of_ble_eq_true rfl) rfl (Nat.le_of_ble_eq_true rfl) dL_wins_420 ?_
                refine V.top (y := ar 4 i) (hg3n ) ?_
                refine V_iload X rfl dL_wins_423 ?_
                refine V_if_eq X (tgt := 446) (by decide) dL_wins_425 (fun hc425 => ?_) (fun hc425 => absurd hc425 (by decide))
                refine V_aload X rfl dL_wins_446 ?_
                refine V_iload X rfl dL_wins_448 ?_
                refine V_taL X hT 2 (i) (by decide) (by omega) (mixF_e hlt e4) dL_wins_450 ?_
                refine V_icmp_ne X (tgt := 458) (by decide) dL_wins_451 (fun hc451 => absurd hc451 (fun q => q rfl)) (fun hc451 => ?_)
                refine V_iconst X (v := 1) (by decide) dL_wins_454 ?_
                refine V_goto X (tgt := 459) (by decide) dL_wins_455 ?_
                refine V_istore X (lv' := [(13, _), (20, _), (19, _), (18, _), (17, _), (16, _), (15, _), (0, _), (1, _), (2, _), (3, _), (4, _), (5, _), (6, _), (7, _), (8, _), (9, _), (10, _), (11, _), (12, _), (14, _)]) (by decide) rfl dL_wins_459 ?_
                refine V_iinc X (lv' := [(14, _), (13, _), (20, _), (19, _), (18, _), (17, _), (16, _), (15, _), (0, _), (1, _), (2, _), (3, _), (4, _), (5, _), (6, _), (7, _), (8, _), (9, _), (10, _), (11, _), (12, _)]) (v := nI (i + 1)) rfl (nI_1 _) (by decide) rfl dL_wins_461 ?_
                refine V_goto X (tgt := 189) (by decide) dL_wins_464 ?_
                refine V.lvs (lv' := [(0, _), (1, _), (2, _), (3, _), (4, _), (5, _), (6, _), (7, _), (8, _), (9, _), (10, _), (11, _), (12, _), (13, _), (14, _)]) rfl ?_
                exact ih (zN z 0 - (i + 1)) (by omega) (i + 1) rfl (by omega)
              · refine V_aload X rfl dL_wins_348 ?_
                refine V_iload X rfl dL_wins_350 ?_
                refine V_taL X hT 1 (i) (by decide) (by omega) (mixF_e hlt e2) dL_wins_352 ?_
                refine V_bipush X (v := 9) (by decide) dL_wins_353 ?_
                refine V_imul X dL_wins_355 ?_
                refine V_bipush X (v := 10) (by decide) dL_wins_356 ?_
                refine V_idiv X (by decide) dL_wins_358 ?_
                refine V_bipush X (v := 50) (by decide) dL_wins_359 ?_
                refine V_icmp_ge X (tgt := 369) (by decide) dL_wins_361 (fun hc361 => ?_) (fun hc361 => ?_)
                · refine V_aload X rfl dL_wins_369 ?_
                  refine V_iload X rfl dL_wins_371 ?_
                  refine V_taL X hT 1 (i) (by decide) (by omega) (mixF_e hlt e2) dL_wins_373 ?_
                  refine V_bipush X (v := 9) (by decide) dL_wins_374 ?_
                  refine V_imul X dL_wins_376 ?_
                  refine V_bipush X (v := 10) (by decide) dL_wins_377 ?_
                  refine V_idiv X (by decide) dL_wins_379 ?_
                  exact hj380 _ ((by unfold nuI; rw [if_pos hc361]))
                · refine V_bipush X (v := 50) (by decide) dL_wins_364 ?_
                  refine V_goto X (tgt := 380) (by decide) dL_wins_366 ?_
                  exact hj380 _ ((by unfold nuI; rw [if_neg hc361]))
            · refine V_iload X rfl dL_wins_321 ?_
              refine V_if_ge X (tgt := 330) (by decide) dL_wins_323 (fun hc323 => ?_) (fun hc323 => ?_)
              · refine V_iload X rfl dL_wins_330 ?_
                refine V_sipush X (v := 4000) (by decide) dL_wins_332 ?_
                refine V_icmp_le X (tgt := 344) (by decide) dL_wins_335 (fun hc335 => ?_) (fun hc335 => ?_)
                · refine V_iload X rfl dL_wins_344 ?_
                  exact hj346 _ ((by unfold clI; rw [if_pos hc323, if_pos hc335]))
                · refine V_sipush X (v := 4000) (by decide) dL_wins_338 ?_
                  refine V_goto X (tgt := 346) (by decide) dL_wins_341 ?_
                  exact hj346 _ ((by unfold clI; rw [if_pos hc323, if_neg hc335]))
              · refine V_iconst X (v := 0) (by decide) dL_wins_326 ?_
                refine V_goto X (tgt := 346) (by decide) dL_wins_327 ?_
                exact hj346 _ ((by unfold clI; rw [if_neg (Int32.not_le.mpr (Int32.not_le.mp hc323))]))
    refine V_istore X (lv' := [(12, _), (0, _), (1, _), (2, _), (3, _), (4, _), (5, _), (6, _), (7, _), (8, _), (9, _), (10, _), (11, _)]) (by decide) rfl dL_wins_161 ?_
    refine V_iload X rfl dL_wins_163 ?_
    refine V_iload X rfl dL_wins_165 ?_
    refine V_if_eq X (tgt := 174) (by decide) dL_wins_167 (fun hc167 => ?_) (fun hc167 => absurd hc167 (by decide))
    refine V_bipush X (v := (-8)) (by decide) dL_wins_174 ?_
    refine V_icmp_ne X (tgt := 183) (by decide) dL_wins_176 (fun hc176 => absurd hc176 (fun q => q rfl)) (fun hc176 => ?_)
    refine V_iconst X (v := 1) (by decide) dL_wins_179 ?_
    refine V_goto X (tgt := 184) (by decide) dL_wins_180 ?_
    refine V_istore X (lv' := [(13, _), (12, _), (0, _), (1, _), (2, _), (3, _), (4, _), (5, _), (6, _), (7, _), (8, _), (9, _), (10, _), (11, _)]) (by decide) rfl dL_wins_184 ?_
    refine V_iconst X (v := 0) (by decide) dL_wins_186 ?_
    refine V_istore X (lv' := [(14, _), (13, _), (12, _), (0, _), (1, _), (2, _), (3, _), (4, _), (5, _), (6, _), (7, _), (8, _), (9, _), (10, _), (11, _)]) (by decide) rfl dL_wins_187 ?_
    refine V.lvs (lv' := [(0, _), (1, _), (2, _), (3, _), (4, _), (5, _), (6, _), (7, _), (8, _), (9, _), (10, _), (11, _), (12, _), (13, _), (14, _)]) rfl ?_
    exact L2 _ 0 rfl (Nat.zero_le _)
  have L1 : ∀ (n i : Nat), zN z 0 - i = n → i ≤ zN z 0 → ∀ f1 : Wo, TA (kG K) 3 B (fun j => mixF i (sr3 fi j) (fun _ => 0)) f1 → FrT f0 f1 → V K f1 1 6 106 [(0, .ref (al (15, 0))), (1, .int (nI m)), (2, .int 1), (3, .ref (A 0)), (4, .ref (A 1)), (5, .ref (A 6)), (6, .ref (B 0)), (7, .ref (B 1)), (8, .ref (B 2)), (9, .int 0), (10, .int (fi 9 m)), (11, .int (exI (e0I (zN z 0) m ar))), (12, .int (nI i))] [] := by
    intro n
    induction n using Nat.strongRecOn with
    | ind n ih =>
      intro i hn hi f1 hT hF
      have hR := hR.keepT hF
      have hA := hA.ft hF
      refine V_iload X rfl dL_wins_106 ?_
      refine V_aload X rfl dL_wins_108 ?_
      refine V_iconst X (v := 1) (by decide) dL_wins_110 ?_
      refine V_ald X hA 6 (1) 4 (by decide) rfl (by omega) (hI.c1) dL_wins_111 ?_
      refine V_icmp_ge X (tgt := 154) (by decide) dL_wins_112 (fun hc112 => ?_) (fun hc112 => ?_)
      · have hiN := lim_ge (N := zN z 0) rfl hc112 hi (by omega)
        rw [hiN] at hT
        refine V.lvs (lv' := [(0, _), (1, _), (2, _), (3, _), (4, _), (5, _), (6, _), (7, _), (8, _), (9, _), (10, _), (11, _)]) rfl ?_
        exact T4 _ hT hF
      · have hlt := lim_lt (N := zN z 0) rfl hc112 hi (by omega)
        refine V_aload X rfl dL_wins_115 ?_
        refine V_iload X rfl dL_wins_117 ?_
        refine V_aload_n X rfl dL_wins_119 ?_
        refine V_iload X rfl dL_wins_120 ?_
        refine V_callVp X (rest := _) (c_X5_rating_t _ _ _ al fi z hR i hlt) (hR.2.1 (15, 0) dm15) rfl gL_wins_X5_rating rfl hdv_X5_rating (Nat.le_of_ble_eq_true rfl) (Nat.le_of_ble_eq_true rfl) rfl (Nat.le_of_ble_eq_true rfl) dL_wins_122 ?_
        refine V_taS X hT 0 (i) (by decide) (by omega) dL_wins_125 (fun f hT hG => ?_)
        have hG1 := hG
        have hR := hR.keepT hG
        have hA := hA.ft hG
        refine V_aload X rfl dL_wins_126 ?_
        refine V_iload X rfl dL_wins_128 ?_
        refine V_aload_n X rfl dL_wins_130 ?_
        refine V_iload X rfl dL_wins_131 ?_
        refine V_callVp X (rest := _) (c_X5_uncertainty_t _ _ _ al fi z hR i hlt) (hR.2.1 (15, 0) dm15) rfl gL_wins_X5_uncertainty rfl hdv_X5_uncertainty (Nat.le_of_ble_eq_true rfl) (Nat.le_of_ble_eq_true rfl) rfl (Nat.le_of_ble_eq_true rfl) dL_wins_133 ?_
        refine V_taS X hT 1 (i) (by decide) (by omega) dL_wins_136 (fun f hT hG => ?_)
        have hG2 := hG
        have hR := hR.keepT hG
        have hA := hA.ft hG
        refine V_aload X rfl dL_wins_137 ?_
        refine V_iload X rfl dL_wins_139 ?_
        refine V_aload_n X rfl dL_wins_141 ?_
        refine V_iload X rfl dL_wins_142 ?_
        refine V_callVp X (rest := _) (c_X5_level_t _ _ _ al fi z hR i hlt) (hR.2.1 (15, 0) dm15) rfl gL_wins_X5_level rfl hdv_X5_level (Nat.le_of_ble_eq_true rfl) (Nat.le_of_ble_eq_true rfl) rfl (Nat.le_of_ble_eq_true rfl) dL_wins_144 ?_
        refine V_taS X hT 2 (i) (by decide) (by omega) dL_wins_147 (fun f hT hG => ?_)
        have hG3 := hG
        have hR := hR.keepT hG
        have hA := hA.ft hG
        refine V_iinc X (lv' := [(12, _), (0, _), (1, _), (2, _), (3, _), (4, _), (5, _), (6, _), (7, _), (8, _), (9, _), (10, _), (11, _)]) (v := nI (i + 1)) rfl (nI_1 _) (by decide) rfl dL_wins_148 ?_
        refine V_goto X (tgt := 106) (by decide) dL_wins_151 ?_
        refine V.lvs (lv' := [(0, _), (1, _), (2, _), (3, _), (4, _), (5, _), (6, _), (7, _), (8, _), (9, _), (10, _), (11, _), (12, _)]) rfl ?_
        exact ih (zN z 0 - (i + 1)) (by omega) (i + 1) rfl (by omega) _ (hT.cg (sr3_step fi i)) (((hF.trans hG1).trans hG2).trans hG3)
  refine V_astore X (lv' := [(8, _), (7, _), (6, _), (0, _), (1, _), (2, _), (3, _), (4, _), (5, _)]) (by decide) rfl dL_wins_16 ?_
  refine V_aload X rfl dL_wins_18 ?_
  refine V_iload_n X rfl dL_wins_20 ?_
  refine V_ald X hA 1 (m) 31 (by decide) rfl (by omega) (u3) dL_wins_21 ?_
  refine V_bipush X (v := 18) (by decide) dL_wins_22 ?_
  refine V_ishr X dL_wins_24 ?_
  refine V_iconst X (v := 3) (by decide) dL_wins_25 ?_
  refine V_iand X dL_wins_26 ?_
  refine V.top (y := nI T) (j_st hU hT4) ?_
  refine V_iconst X (v := 1) (by decide) dL_wins_27 ?_
  refine V_icmp_ne X (tgt := 35) (by decide) dL_wins_28 (fun hc28 => ?_) (fun hc28 => absurd hc28 (fun q => hst (m13.trans (u2.trans q))))
  refine V_iconst X (v := 0) (by decide) dL_wins_35 ?_
  refine V_istore X (lv' := [(9, _), (8, _), (7, _), (6, _), (0, _), (1, _), (2, _), (3, _), (4, _), (5, _)]) (by decide) rfl dL_wins_36 ?_
  refine V_aload_n X rfl dL_wins_38 ?_
  refine V_iload_n X rfl dL_wins_39 ?_
  refine V_iconst X (v := 0) (by decide) dL_wins_40 ?_
  refine V_callVp X (rest := _) (c_X5_team_t _ _ _ al fi z hR m hm 0 (Or.inl rfl)) (hR.2.1 (15, 0) dm15) rfl gL_wins_X5_team rfl hdv_X5_team (Nat.le_of_ble_eq_true rfl) (Nat.le_of_ble_eq_true rfl) rfl (Nat.le_of_ble_eq_true rfl) dL_wins_41 ?_
  refine V.top (y := fi 9 m) (if_pos rfl) ?_
  refine V_istore X (lv' := [(10, _), (9, _), (8, _), (7, _), (6, _), (0, _), (1, _), (2, _), (3, _), (4, _), (5, _)]) (by decide) rfl dL_wins_44 ?_
  refine V_sipush X (v := 500) (by decide) dL_wins_46 ?_
  refine V_aload_n X rfl dL_wins_49 ?_
  refine V_iload X rfl dL_wins_50 ?_
  refine V_callSp X (rest := _) (c_L_sum _ _ _ al fi z hR (fi 9 m) hs0) gL_wins_L_sum rfl hds_L_sum (Nat.le_of_ble_eq_true rfl) (Nat.le_of_ble_eq_true rfl) rfl (Nat.le_of_ble_eq_true rfl) dL_wins_52 ?_
  refine V.top (y := smI (zN z 0) (ar 11 (2 * m)) (ar 1)) (hsm0) ?_
  refine V_iconst X (v := 3) (by decide) dL_wins_55 ?_
  refine V_idiv X (by decide) dL_wins_56 ?_
  refine V_iadd X dL_wins_57 ?_
  refine V_aload_n X rfl dL_wins_58 ?_
  refine V_aload_n X rfl dL_wins_59 ?_
  refine V_iload_n X rfl dL_wins_60 ?_
  refine V_iconst X (v := 1) (by decide) dL_wins_61 ?_
  refine V_callVp X (rest := _) (c_X5_team_t _ _ _ al fi z hR m hm 1 (Or.inr rfl)) (hR.2.1 (15, 0) dm15) rfl gL_wins_X5_team rfl hdv_X5_team (Nat.le_of_ble_eq_true rfl) (Nat.le_of_ble_eq_true rfl) rfl (Nat.le_of_ble_eq_true rfl) dL_wins_62 ?_
  refine V.top (y := fi 10 m) (if_neg (by decide)) ?_
  refine V_callSp X (rest := _) (c_L_sum _ _ _ al fi z hR (fi 10 m) hs1) gL_wins_L_sum rfl hds_L_sum (Nat.le_of_ble_eq_true rfl) (Nat.le_of_ble_eq_true rfl) rfl (Nat.le_of_ble_eq_true rfl) dL_wins_65 ?_
  refine V.top (y := smI (zN z 0) (ar 11 (2 * m + 1)) (ar 1)) (hsm1) ?_
  refine V_iconst X (v := 3) (by decide) dL_wins_68 ?_
  refine V_idiv X (by decide) dL_wins_69 ?_
  refine V_isub X dL_wins_70 ?_
  refine V.top (y := e0I (zN z 0) m ar) (rfl) ?_
  refine V_istore X (lv' := [(11, _), (10, _), (9, _), (8, _), (7, _), (6, _), (0, _), (1, _), (2, _), (3, _), (4, _), (5, _)]) (by decide) rfl dL_wins_71 ?_
  refine V.join (P := fun v9 => v9 = (exI (e0I (zN z 0) m ar))) 101 (fun w101 hw101 => ?_) (fun hj101 => ?_)
  · subst hw101
    refine V_istore X (lv' := [(11, _), (10, _), (9, _), (8, _), (7, _), (6, _), (0, _), (1, _), (2, _), (3, _), (4, _), (5, _)]) (by decide) rfl dL_wins_101 ?_
    refine V_iconst X (v := 0) (by decide) dL_wins_103 ?_
    refine V_istore X (lv' := [(12, _), (11, _), (10, _), (9, _), (8, _), (7, _), (6, _), (0, _), (1, _), (2, _), (3, _), (4, _), (5, _)]) (by decide) rfl dL_wins_104 ?_
    refine V.lvs (lv' := [(0, _), (1, _), (2, _), (3, _), (4, _), (5, _), (6, _), (7, _), (8, _), (9, _), (10, _), (11, _), (12, _)]) rfl ?_
    exact L1 _ 0 rfl (Nat.zero_le _) _ hTT FrT.rf
  · refine V_iload X rfl dL_wins_73 ?_
    refine V_bipush X (v := 50) (by decide) dL_wins_75 ?_
    refine V_icmp_ge X (tgt := 85) (by decide) dL_wins_77 (fun hc77 => ?_) (fun hc77 => ?_)
    · refine V_iload X rfl dL_wins_85 ?_
      refine V_sipush X (v := 950) (by decide) dL_wins_87 ?_
      refine V_icmp_le X (tgt := 99) (by decide) dL_wins_90 (fun hc90 => ?_) (fun hc90 => ?_)
      · refine V_iload X rfl dL_wins_99 ?_
        exact hj101 _ ((by show _ = exI (e0I (zN z 0) m ar); unfold exI; rw [if_pos hc77, if_pos hc90]))
      · refine V_sipush X (v := 950) (by decide) dL_wins_93 ?_
        refine V_goto X (tgt := 101) (by decide) dL_wins_96 ?_
        exact hj101 _ ((by show _ = exI (e0I (zN z 0) m ar); unfold exI; rw [if_pos hc77, if_neg hc90]))
    · refine V_bipush X (v := 50) (by decide) dL_wins_80 ?_
      refine V_goto X (tgt := 101) (by decide) dL_wins_82 ?_
      exact hj101 _ ((by show _ = exI (e0I (zN z 0) m ar); unfold exI; rw [if_neg hc77]))
