/-! ===== the law: answers ===== -/
theorem hsI_aw {U T : Nat} {x y : Int32} {k : Nat} (hx : x = nI (U + 262144 * T)) (hy : y = nI U) (hU : U < 262144) (hT : T < 4) (b : Int32) (hk : k < 18) : hsI (x &&& (b ^^^ (-1))) (nI k) = hsI (y &&& (b ^^^ (-1))) (nI k) := by
  rw [hsI_gb _ (by omega), hsI_gb _ (by omega), gb_and, gb_and, hx, hy, gb_nI _ (by omega), gb_nI _ (by omega)]
  congr 1
  have := Nat.testBit_two_pow_mul_add T (b := U) (i := 18) (by omega) k
  rw [if_pos hk] at this
  rw [← this]
  congr 1
  omega
theorem j_or18 {U : Nat} (hU : U < 262144) : nI U ||| 262144 = nI (U + 262144 * 1) := by
  rw [show (262144 : Int32) = nI 262144 from rfl, nI_or]
  congr 1
  have h : 262144 + U = 262144 ||| U := Nat.two_pow_add_eq_or_of_lt (i := 18) (by omega) 1
  rw [Nat.or_comm]
  omega
section AWs
variable {c : Nat} {fi : Nat → Nat → Int32} {z : CZ} {sc : Nat → Int32} {ar : Nat → Nat → Int32} {lq : Nat → Int64} {la : Nat → Nat → Int32} {P S Q M : Nat → Nat}
/-- whether a player can answer, as both sides see it -/
theorem AW.eq (hS : SM c fi z sc ar) (hI : IV c (zN z 0) (zN z 1) (zN z 2) ar lq la P S Q M) {m k : Nat} (hm : m < zN z 2) (hk : k < zN z 0) : awC fi m (nI k) = (decide (ar 15 m = 0) && hsI (la 1 m &&& (la 4 m ^^^ (-1))) (nI k)) := by
  obtain ⟨⟨U, T, hU, hT, u1, u2, u3⟩, u4, -⟩ := hI.ma hm
  obtain ⟨-, -, -, m13, -, -, m0⟩ := hS.mt hm
  have hn := hS.np
  unfold awC
  rw [m13]
  by_cases h : ar 15 m = 0
  · rw [decide_eq_true h, (m0 (m13.trans h)).1, u4]
    show (true && hsI (allI (ar 11) m &&& (ar 14 m ^^^ (-1))) (nI k)) = _
    rw [hsI_aw u3 u1 hU hT _ (by omega)]
  · rw [decide_eq_false h, Bool.false_and, Bool.false_and]
end AWs
set_option maxHeartbeats 4000000 in
set_option maxRecDepth 100000 in
theorem c_L_answers_a (l : Launch) (hl : l.stackTraces = false) (G : GG) (f : Wo) (al : Tg → Nat) (fi : Nat → Nat → Int32) (z : CZ) (hR : RC G al fi z f) (A : Nat → Nat) (lq : Nat → Int64) (la : Nat → Nat → Int32) (hA : LA G A lq la f) (c : Nat) (sc : Nat → Int32) (ar : Nat → Nat → Int32) (hS : SM c fi z sc ar) (hB : BR ar) (P S Q M : Nat → Nat) (hI : IV c (zN z 0) (zN z 1) (zN z 2) ar lq la P S Q M) (m k : Nat) (hm : m < zN z 2) (hk : k < zN z 0) : Ct l yL_answers wsL_answers 15 296 G [.ref (al (15, 0)), .int (nI m), .int (nI k), .int 1, .ref (A 0), .ref (A 1), .ref (A 3), .ref (A 4), .ref (A 6)] f (fun r f' => r = some (.int 1) ∧ LW G A (al (15, 0)) f' c (zN z 0) (zN z 1) (zN z 2)) 1 6 := by
  refine Ct.of (cc := cL_answers) (maxL := 13) (ret := (some .boolean)) (by decide) rfl (Nat.le_of_ble_eq_true rfl) (lv := [(0, _), (1, _), (2, _), (3, _), (4, _), (5, _), (6, _), (7, _), (8, _)]) rfl (by simp [Value.category]) ?_
  intro K X hL hG hr hnm
  subst hL; subst hG
  have h18 := hI.np
  have h30 := hI.nm
  have h2k := hI.cc
  obtain ⟨⟨U, T, hU, hT, u1, u2, u3⟩, u4, u5, -⟩ := hI.ma hm
  obtain ⟨-, -, -, m13, -, -, m0⟩ := hS.mt hm
  have haw := AW.eq hS hI hm hk
  obtain ⟨e1, e2, e3, e4, e6, e5, ⟨v, hv5, hv⟩, -⟩ := hS.pl hk
  have T9 : V K f 1 6 35 [(0, .ref (al (15, 0))), (1, .int (nI m)), (2, .int (nI k)), (3, .int 1), (4, .ref (A 0)), (5, .ref (A 1)), (6, .ref (A 3)), (7, .ref (A 4)), (8, .ref (A 6))] [.int (bI (awC fi m (nI k)))] := by
    cases hw : awC fi m (nI k) with
    | false =>
      refine V_istore X (lv' := [(9, _), (0, _), (1, _), (2, _), (3, _), (4, _), (5, _), (6, _), (7, _), (8, _)]) (by decide) rfl dL_answers_35 ?_
      refine V_aload_n X rfl dL_answers_37 ?_
      refine V_iload_n X rfl dL_answers_38 ?_
      refine V_callVp X (rest := _) (c_X5_level_t _ _ _ al fi z hR k hk) (hR.2.1 (15, 0) dm15) rfl gL_answers_X5_level rfl hdv_X5_level (Nat.le_of_ble_eq_true rfl) (Nat.le_of_ble_eq_true rfl) rfl (Nat.le_of_ble_eq_true rfl) dL_answers_39 ?_
      refine V.top (y := nI v) (hv) ?_
      refine V_istore X (lv' := [(10, _), (9, _), (0, _), (1, _), (2, _), (3, _), (4, _), (5, _), (6, _), (7, _), (8, _)]) (by decide) rfl dL_answers_42 ?_
      refine V_aload_n X rfl dL_answers_44 ?_
      refine V_iload_n X rfl dL_answers_45 ?_
      refine V_if_eq X (tgt := 53) (by decide) dL_answers_46 (fun hc46 => absurd hc46 (by decide)) (fun hc46 => ?_)
      refine V_iconst X (v := 2) (by decide) dL_answers_49 ?_
      refine V_goto X (tgt := 54) (by decide) dL_answers_50 ?_
      refine V_iload_n X rfl dL_answers_54 ?_
      refine V_iload_n X rfl dL_answers_55 ?_
      refine V_callSH (kc' := 0) (ks' := 0) X (rest := _) (c_L_asks_a_s _ hl _ _ al fi z hR m k hm hk hw) gL_answers_L_asks rfl hds_L_asks (Nat.le_of_ble_eq_true rfl) (Nat.le_of_ble_eq_true rfl) rfl (Nat.le_of_ble_eq_true rfl) (by omega) (by omega) dL_answers_56 (fun r9 f9 h9 => ?_)
      obtain ⟨rfl, rfl⟩ := h9
      refine V_istore X (lv' := [(11, _), (10, _), (9, _), (0, _), (1, _), (2, _), (3, _), (4, _), (5, _), (6, _), (7, _), (8, _)]) (by decide) rfl dL_answers_59 ?_
      refine V_iload X rfl dL_answers_61 ?_
      refine V_if_ne X (tgt := 79) (by decide) dL_answers_63 (fun hc63 => absurd hc63 (by decide)) (fun hc63 => ?_)
      refine V_iload X rfl dL_answers_66 ?_
      refine V_bipush X (v := (-8)) (by decide) dL_answers_68 ?_
      refine V_icmp_ne X (tgt := 77) (by decide) dL_answers_70 (fun hc70 => absurd hc70 (fun q => q rfl)) (fun hc70 => ?_)
      refine V_iconst X (v := 1) (by decide) dL_answers_73 ?_
      refine V_goto X (tgt := 78) (by decide) dL_answers_74 ?_
      exact V_zret X hr (by decide) (⟨rfl, al, fi, z, sc, ar, lq, la, P, S, Q, M, rfl, hR, hA, hS, hB, rfl, rfl, rfl, hI⟩) dL_answers_78
    | true =>
      have hw2 := haw.symm.trans hw
      obtain ⟨ha1, ha2⟩ := Bool.and_eq_true_iff.mp hw2
      have h15 := of_decide_eq_true ha1
      have hT0 : T = 0 := (nI_eq (by omega) (by decide)).mp (u2.symm.trans h15)
      have u30 : la 1 m = nI U := by rw [u3, hT0]; rfl
      have hst : fi 13 m = 0 := m13.trans h15
      have hb14 : gb (fi 14 m) k = true := by unfold awC at hw; rw [← hsI_gb _ (by omega)]; exact (Bool.and_eq_true_iff.mp hw).2
      have hacc := hS.acc (sc' := sc) (ar' := (va_up (va_up ar 14 (va_up (ar 14) m (ar 14 m ||| 1 <<< (nI k &&& 31)))) 15 (va_up (ar 15) m (bI (decide ((ar 14 m ||| 1 <<< (nI k &&& 31)) = allI (ar 11) m)))))) hm (by omega) hst hb14 (fun _ _ => rfl) (fun j j1 j2 => by rw [va_up_ne _ _ j2, va_up_ne _ _ j1]) (by rw [va_up_ne _ _ (show (14 : Nat) ≠ 15 by decide), va_up_self]) (by rw [va_up_self])
      refine V_istore X (lv' := [(9, _), (0, _), (1, _), (2, _), (3, _), (4, _), (5, _), (6, _), (7, _), (8, _)]) (by decide) rfl dL_answers_35 ?_
      refine V_aload_n X rfl dL_answers_37 ?_
      refine V_iload_n X rfl dL_answers_38 ?_
      refine V_callVp X (rest := _) (c_X5_level_t _ _ _ al fi z hR k hk) (hR.2.1 (15, 0) dm15) rfl gL_answers_X5_level rfl hdv_X5_level (Nat.le_of_ble_eq_true rfl) (Nat.le_of_ble_eq_true rfl) rfl (Nat.le_of_ble_eq_true rfl) dL_answers_39 ?_
      refine V.top (y := nI v) (hv) ?_
      refine V_istore X (lv' := [(10, _), (9, _), (0, _), (1, _), (2, _), (3, _), (4, _), (5, _), (6, _), (7, _), (8, _)]) (by decide) rfl dL_answers_42 ?_
      refine V_aload_n X rfl dL_answers_44 ?_
      refine V_iload_n X rfl dL_answers_45 ?_
      refine V_if_eq X (tgt := 53) (by decide) dL_answers_46 (fun hc46 => absurd hc46 (by decide)) (fun hc46 => ?_)
      refine V_iconst X (v := 2) (by decide) dL_answers_49 ?_
      refine V_goto X (tgt := 54) (by decide) dL_answers_50 ?_
      refine V_iload_n X rfl dL_answers_54 ?_
      refine V_iload_n X rfl dL_answers_55 ?_
      refine V_callSH (kc' := 0) (ks' := 0) X (rest := _) (c_L_asks_a _ _ _ al fi z hR m k hm hk hw) gL_answers_L_asks rfl hds_L_asks (Nat.le_of_ble_eq_true rfl) (Nat.le_of_ble_eq_true rfl) rfl (Nat.le_of_ble_eq_true rfl) (by omega) (by omega) dL_answers_56 (fun r9 f9 h9 => ?_)
      obtain ⟨rfl, hR, hF9⟩ := h9
      have hA := hA.fr hF9
      refine V_istore X (lv' := [(11, _), (10, _), (9, _), (0, _), (1, _), (2, _), (3, _), (4, _), (5, _), (6, _), (7, _), (8, _)]) (by decide) rfl dL_answers_59 ?_
      refine V_iload X rfl dL_answers_61 ?_
      refine V_if_ne X (tgt := 79) (by decide) dL_answers_63 (fun hc63 => ?_) (fun hc63 => absurd hc63 (by decide))
      refine V_iload_n X rfl dL_answers_79 ?_
      refine V_if_eq X (tgt := 153) (by decide) dL_answers_80 (fun hc80 => absurd hc80 (by decide)) (fun hc80 => ?_)
      refine V_aload X rfl dL_answers_83 ?_
      refine V_iload_n X rfl dL_answers_85 ?_
      refine V_dup2 X rfl rfl dL_answers_86 ?_
      refine V_ald X hA 4 (m) 31 (by decide) rfl (by omega) (u4) dL_answers_87 ?_
      refine V_iconst X (v := 1) (by decide) dL_answers_88 ?_
      refine V_iload_n X rfl dL_answers_89 ?_
      refine V_ishl X dL_answers_90 ?_
      refine V_ior X dL_answers_91 ?_
      refine V_ast X hA 4 (m) 31 (by decide) rfl (by omega) dL_answers_92 (fun f hA hFA => ?_)
      have hF2 := hFA
      refine V_aload X rfl dL_answers_93 ?_
      refine V_iload_n X rfl dL_answers_95 ?_
      refine V_ald X hA 4 (m) 31 (by decide) rfl (by omega) (fu_self _ _ _ _) dL_answers_96 ?_
      refine V_aload X rfl dL_answers_97 ?_
      refine V_iload_n X rfl dL_answers_99 ?_
      refine V_ald X hA 1 (m) 31 (by decide) rfl (by omega) ((fu_ne _ _ (Or.inl (by decide))).trans u3) dL_answers_100 ?_
      refine V_ldc X (v := 262143) (by decide +kernel) dL_answers_101 ?_
      refine V_iand X dL_answers_103 ?_
      refine V.top (y := nI U) (j_U hU hT) ?_
      refine V_icmp_ne X (tgt := 111) (by decide) dL_answers_104 (fun hc104 => ?_) (fun hc104 => ?_)
      · refine V_iconst X (v := 0) (by decide) dL_answers_111 ?_
        refine V_istore X (lv' := [(12, _), (11, _), (10, _), (9, _), (0, _), (1, _), (2, _), (3, _), (4, _), (5, _), (6, _), (7, _), (8, _)]) (by decide) rfl dL_answers_112 ?_
        refine V_aload X rfl dL_answers_114 ?_
        refine V_iload_n X rfl dL_answers_116 ?_
        refine V_dup2 X rfl rfl dL_answers_117 ?_
        refine V_ald X hA 1 (m) 31 (by decide) rfl (by omega) ((fu_ne _ _ (Or.inl (by decide))).trans u30) dL_answers_118 ?_
        refine V_iload X rfl dL_answers_119 ?_
        refine V_if_eq X (tgt := 129) (by decide) dL_answers_121 (fun hc121 => ?_) (fun hc121 => absurd hc121 (by decide))
        refine V_iconst X (v := 0) (by decide) dL_answers_129 ?_
        refine V_ior X dL_answers_130 ?_
        refine V.top (y := nI (U + 262144 * 0)) (or32_0 _) ?_
        refine V_ast X hA 1 (m) 31 (by decide) rfl (by omega) dL_answers_131 (fun f hA hFA => ?_)
        refine V_iload X rfl dL_answers_132 ?_
        refine V_iload X rfl dL_answers_134 ?_
        refine V_if_eq X (tgt := 143) (by decide) dL_answers_136 (fun hc136 => ?_) (fun hc136 => absurd hc136 (by decide))
        refine V_iconst X (v := 0) (by decide) dL_answers_143 ?_
        refine V_icmp_ne X (tgt := 151) (by decide) dL_answers_144 (fun hc144 => absurd hc144 (fun q => q (by rw [hacc.2, decide_eq_false (fun q => hc104 (q.trans u1))]; rfl))) (fun hc144 => ?_)
        refine V_iconst X (v := 1) (by decide) dL_answers_147 ?_
        refine V_goto X (tgt := 152) (by decide) dL_answers_148 ?_
        exact V_zret X hr (by decide) (⟨rfl, al, _, z, sc, (va_up (va_up ar 14 (va_up (ar 14) m (ar 14 m ||| 1 <<< (nI k &&& 31)))) 15 (va_up (ar 15) m (bI (decide ((ar 14 m ||| 1 <<< (nI k &&& 31)) = allI (ar 11) m))))), _, _, P, S, Q, M, rfl, (hR.keepA hF2).keepA hFA, hA, hacc.1, hB.same rfl rfl, rfl, rfl, rfl, hI.acc (Tn := 0) (by decide) hU u1 rfl (by rw [show (va_up (va_up ar 14 (va_up (ar 14) m (ar 14 m ||| 1 <<< (nI k &&& 31)))) 15 (va_up (ar 15) m (bI (decide ((ar 14 m ||| 1 <<< (nI k &&& 31)) = allI (ar 11) m))))) 15 = va_up (ar 15) m (bI (decide ((ar 14 m ||| 1 <<< (nI k &&& 31)) = allI (ar 11) m))) from rfl, decide_eq_false (fun q => hc104 (q.trans u1))]; rfl) (fun j j1 j2 => by rw [va_up_ne _ _ j2, va_up_ne _ _ j1])⟩) dL_answers_152
      · refine V_iconst X (v := 1) (by decide) dL_answers_107 ?_
        refine V_goto X (tgt := 112) (by decide) dL_answers_108 ?_
        refine V_istore X (lv' := [(12, _), (11, _), (10, _), (9, _), (0, _), (1, _), (2, _), (3, _), (4, _), (5, _), (6, _), (7, _), (8, _)]) (by decide) rfl dL_answers_112 ?_
        refine V_aload X rfl dL_answers_114 ?_
        refine V_iload_n X rfl dL_answers_116 ?_
        refine V_dup2 X rfl rfl dL_answers_117 ?_
        refine V_ald X hA 1 (m) 31 (by decide) rfl (by omega) ((fu_ne _ _ (Or.inl (by decide))).trans u30) dL_answers_118 ?_
        refine V_iload X rfl dL_answers_119 ?_
        refine V_if_eq X (tgt := 129) (by decide) dL_answers_121 (fun hc121 => absurd hc121 (by decide)) (fun hc121 => ?_)
        refine V_ldc X (v := 262144) (by decide +kernel) dL_answers_124 ?_
        refine V_goto X (tgt := 130) (by decide) dL_answers_126 ?_
        refine V_ior X dL_answers_130 ?_
        refine V.top (y := nI (U + 262144 * 1)) (j_or18 hU) ?_
        refine V_ast X hA 1 (m) 31 (by decide) rfl (by omega) dL_answers_131 (fun f hA hFA => ?_)
        refine V_iload X rfl dL_answers_132 ?_
        refine V_iload X rfl dL_answers_134 ?_
        refine V_if_eq X (tgt := 143) (by decide) dL_answers_136 (fun hc136 => absurd hc136 (by decide)) (fun hc136 => ?_)
        refine V_iconst X (v := 1) (by decide) dL_answers_139 ?_
        refine V_goto X (tgt := 144) (by decide) dL_answers_140 ?_
        refine V_icmp_ne X (tgt := 151) (by decide) dL_answers_144 (fun hc144 => absurd hc144 (fun q => q (by rw [hacc.2, decide_eq_true (hc104.trans u1.symm)]; rfl))) (fun hc144 => ?_)
        refine V_iconst X (v := 1) (by decide) dL_answers_147 ?_
        refine V_goto X (tgt := 152) (by decide) dL_answers_148 ?_
        exact V_zret X hr (by decide) (⟨rfl, al, _, z, sc, (va_up (va_up ar 14 (va_up (ar 14) m (ar 14 m ||| 1 <<< (nI k &&& 31)))) 15 (va_up (ar 15) m (bI (decide ((ar 14 m ||| 1 <<< (nI k &&& 31)) = allI (ar 11) m))))), _, _, P, S, Q, M, rfl, (hR.keepA hF2).keepA hFA, hA, hacc.1, hB.same rfl rfl, rfl, rfl, rfl, hI.acc (Tn := 1) (by decide) hU u1 rfl (by rw [show (va_up (va_up ar 14 (va_up (ar 14) m (ar 14 m ||| 1 <<< (nI k &&& 31)))) 15 (va_up (ar 15) m (bI (decide ((ar 14 m ||| 1 <<< (nI k &&& 31)) = allI (ar 11) m))))) 15 = va_up (ar 15) m (bI (decide ((ar 14 m ||| 1 <<< (nI k &&& 31)) = allI (ar 11) m))) from rfl, decide_eq_true (hc104.trans u1.symm)]; rfl) (fun j j1 j2 => by rw [va_up_ne _ _ j2, va_up_ne _ _ j1])⟩) dL_answers_152
  refine V.join (P := fun w => w = bI (awC fi m (nI k))) 35 (fun w35 hw35 => ?_) (fun hj35 => ?_)
  · subst hw35
    refine V.lvs (lv' := [(0, _), (1, _), (2, _), (3, _), (4, _), (5, _), (6, _), (7, _), (8, _)]) rfl ?_
    exact T9
  · refine V_aload X rfl dL_answers_0 ?_
    refine V_iload_n X rfl dL_answers_2 ?_
    refine V_ald X hA 1 (m) 31 (by decide) rfl (by omega) (rfl) dL_answers_3 ?_
    refine V_bipush X (v := 18) (by decide) dL_answers_4 ?_
    refine V_ishr X dL_answers_6 ?_
    refine V_iconst X (v := 3) (by decide) dL_answers_7 ?_
    refine V_iand X dL_answers_8 ?_
    refine V.top (y := nI T) (by rw [u3]; exact j_st hU hT) ?_
    refine V_if_ne X (tgt := 34) (by decide) dL_answers_9 (fun hc9 => ?_) (fun hc9 => ?_)
    · refine V_iconst X (v := 0) (by decide) dL_answers_34 ?_
      exact hj35 _ ((by rw [haw, decide_eq_false (fun q => hc9 (by rw [← u2, q])), Bool.false_and]; rfl))
    · refine V_aload X rfl dL_answers_12 ?_
      refine V_iload_n X rfl dL_answers_14 ?_
      refine V_ald X hA 1 (m) 31 (by decide) rfl (by omega) (rfl) dL_answers_15 ?_
      refine V_aload X rfl dL_answers_16 ?_
      refine V_iload_n X rfl dL_answers_18 ?_
      refine V_ald X hA 4 (m) 31 (by decide) rfl (by omega) (rfl) dL_answers_19 ?_
      refine V_iconst X (v := (-1)) (by decide) dL_answers_20 ?_
      refine V_ixor X dL_answers_21 ?_
      refine V_iand X dL_answers_22 ?_
      refine V_iload_n X rfl dL_answers_23 ?_
      refine V_callSp X (rest := _) (c_L_has _ _ _ _ _) gL_answers_L_has rfl hds_L_has (Nat.le_of_ble_eq_true rfl) (Nat.le_of_ble_eq_true rfl) rfl (Nat.le_of_ble_eq_true rfl) dL_answers_24 ?_
      refine V_if_eq X (tgt := 34) (by decide) dL_answers_27 (fun hc27 => ?_) (fun hc27 => ?_)
      · refine V_iconst X (v := 0) (by decide) dL_answers_34 ?_
        exact hj35 _ ((by rw [haw, bI_eq0 hc27, Bool.and_false]; rfl))
      · refine V_iconst X (v := 1) (by decide) dL_answers_30 ?_
        refine V_goto X (tgt := 35) (by decide) dL_answers_31 ?_
        exact hj35 _ ((by rw [haw, bI_ne0 hc27, decide_eq_true (u2.trans hc9)]; rfl))
set_option maxHeartbeats 4000000 in
set_option maxRecDepth 100000 in
theorem c_L_answers_d (l : Launch) (hl : l.stackTraces = false) (G : GG) (f : Wo) (al : Tg → Nat) (fi : Nat → Nat → Int32) (z : CZ) (hR : RC G al fi z f) (A : Nat → Nat) (lq : Nat → Int64) (la : Nat → Nat → Int32) (hA : LA G A lq la f) (c : Nat) (sc : Nat → Int32) (ar : Nat → Nat → Int32) (hS : SM c fi z sc ar) (hB : BR ar) (P S Q M : Nat → Nat) (hI : IV c (zN z 0) (zN z 1) (zN z 2) ar lq la P S Q M) (m k : Nat) (hm : m < zN z 2) (hk : k < zN z 0) : Ct l yL_answers wsL_answers 15 296 G [.ref (al (15, 0)), .int (nI m), .int (nI k), .int 0, .ref (A 0), .ref (A 1), .ref (A 3), .ref (A 4), .ref (A 6)] f (fun r f' => r = some (.int 1) ∧ LW G A (al (15, 0)) f' c (zN z 0) (zN z 1) (zN z 2)) 1 6 := by
  refine Ct.of (cc := cL_answers) (maxL := 13) (ret := (some .boolean)) (by decide) rfl (Nat.le_of_ble_eq_true rfl) (lv := [(0, _), (1, _), (2, _), (3, _), (4, _), (5, _), (6, _), (7, _), (8, _)]) rfl (by simp [Value.category]) ?_
  intro K X hL hG hr hnm
  subst hL; subst hG
  have h18 := hI.np
  have h30 := hI.nm
  have h2k := hI.cc
  obtain ⟨⟨U, T, hU, hT, u1, u2, u3⟩, u4, u5, -⟩ := hI.ma hm
  obtain ⟨-, -, -, m13, -, -, m0⟩ := hS.mt hm
  have haw := AW.eq hS hI hm hk
  obtain ⟨e1, e2, e3, e4, e6, e5, ⟨v, hv5, hv⟩, -⟩ := hS.pl hk
  have T9 : V K f 1 6 35 [(0, .ref (al (15, 0))), (1, .int (nI m)), (2, .int (nI k)), (3, .int 0), (4, .ref (A 0)), (5, .ref (A 1)), (6, .ref (A 3)), (7, .ref (A 4)), (8, .ref (A 6))] [.int (bI (awC fi m (nI k)))] := by
    cases hw : awC fi m (nI k) with
    | false =>
      refine V_istore X (lv' := [(9, _), (0, _), (1, _), (2, _), (3, _), (4, _), (5, _), (6, _), (7, _), (8, _)]) (by decide) rfl dL_answers_35 ?_
      refine V_aload_n X rfl dL_answers_37 ?_
      refine V_iload_n X rfl dL_answers_38 ?_
      refine V_callVp X (rest := _) (c_X5_level_t _ _ _ al fi z hR k hk) (hR.2.1 (15, 0) dm15) rfl gL_answers_X5_level rfl hdv_X5_level (Nat.le_of_ble_eq_true rfl) (Nat.le_of_ble_eq_true rfl) rfl (Nat.le_of_ble_eq_true rfl) dL_answers_39 ?_
      refine V.top (y := nI v) (hv) ?_
      refine V_istore X (lv' := [(10, _), (9, _), (0, _), (1, _), (2, _), (3, _), (4, _), (5, _), (6, _), (7, _), (8, _)]) (by decide) rfl dL_answers_42 ?_
      refine V_aload_n X rfl dL_answers_44 ?_
      refine V_iload_n X rfl dL_answers_45 ?_
      refine V_if_eq X (tgt := 53) (by decide) dL_answers_46 (fun hc46 => ?_) (fun hc46 => absurd hc46 (by decide))
      refine V_iconst X (v := 3) (by decide) dL_answers_53 ?_
      refine V_iload_n X rfl dL_answers_54 ?_
      refine V_iload_n X rfl dL_answers_55 ?_
      refine V_callSH (kc' := 0) (ks' := 0) X (rest := _) (c_L_asks_d_s _ hl _ _ al fi z hR m k hm hk hw) gL_answers_L_asks rfl hds_L_asks (Nat.le_of_ble_eq_true rfl) (Nat.le_of_ble_eq_true rfl) rfl (Nat.le_of_ble_eq_true rfl) (by omega) (by omega) dL_answers_56 (fun r9 f9 h9 => ?_)
      obtain ⟨rfl, rfl⟩ := h9
      refine V_istore X (lv' := [(11, _), (10, _), (9, _), (0, _), (1, _), (2, _), (3, _), (4, _), (5, _), (6, _), (7, _), (8, _)]) (by decide) rfl dL_answers_59 ?_
      refine V_iload X rfl dL_answers_61 ?_
      refine V_if_ne X (tgt := 79) (by decide) dL_answers_63 (fun hc63 => absurd hc63 (by decide)) (fun hc63 => ?_)
      refine V_iload X rfl dL_answers_66 ?_
      refine V_bipush X (v := (-8)) (by decide) dL_answers_68 ?_
      refine V_icmp_ne X (tgt := 77) (by decide) dL_answers_70 (fun hc70 => absurd hc70 (fun q => q rfl)) (fun hc70 => ?_)
      refine V_iconst X (v := 1) (by decide) dL_answers_73 ?_
      refine V_goto X (tgt := 78) (by decide) dL_answers_74 ?_
      exact V_zret X hr (by decide) (⟨rfl, al, fi, z, sc, ar, lq, la, P, S, Q, M, rfl, hR, hA, hS, hB, rfl, rfl, rfl, hI⟩) dL_answers_78
    | true =>
      have hw2 := haw.symm.trans hw
      obtain ⟨ha1, ha2⟩ := Bool.and_eq_true_iff.mp hw2
      have h15 := of_decide_eq_true ha1
      have hst : fi 13 m = 0 := m13.trans h15
      have hb14 : gb (fi 14 m) k = true := by unfold awC at hw; rw [← hsI_gb _ (by omega)]; exact (Bool.and_eq_true_iff.mp hw).2
      have hdec := hS.dec (sc' := sc) (ar' := (va_up (va_up (endA (zN z 0) (zN z 1) m (1 <<< (nI k &&& 31)) ar) 4 (va_up (ar 4) k (lvI (ar 4 k)))) 6 (va_up (ar 6) k (sc 3 + mtI (ar 4 k))))) hm hk hst hb14 (fun _ _ => rfl) rfl
      have hlv : dcF fi z m k 3 k = lvI (nI v) := by rw [(hdec.1.pl hk).2.2.2.1, va_up_ne _ _ (show (4 : Nat) ≠ 6 by decide), va_up_self, va_up_self, ← e4, hv]
      have hBd : BR (va_up (va_up (endA (zN z 0) (zN z 1) m (1 <<< (nI k &&& 31)) ar) 4 (va_up (ar 4) k (lvI (ar 4 k)))) 6 (va_up (ar 6) k (sc 3 + mtI (ar 4 k)))) := hB.of (fun q => by
          rw [va_up_ne _ _ (show (4 : Nat) ≠ 6 by decide), va_up_self]
          by_cases hq : q = k
          · rw [hq, va_up_self]; exact Or.inr (Or.inl rfl)
          · rw [va_up_ne _ _ hq]; exact Or.inl rfl) (fun q => by
          rw [va_up_self]
          by_cases hq : q = k
          · rw [hq, va_up_self]; exact Or.inr ⟨c, by omega, by rw [hS.1.2.2.2.1]⟩
          · rw [va_up_ne _ _ hq]; exact Or.inl rfl)
      have hIe := (hI.end (ar' := (endA (zN z 0) (zN z 1) m (1 <<< (nI k &&& 31)) ar)) (b := 1 <<< (nI k &&& 31)) hm rfl rfl rfl (fun j j5 j9 j10 j15 => by unfold endA; rw [if_neg j5, if_neg j9, if_neg j10, if_neg j15])).bar (ar' := (va_up (va_up (endA (zN z 0) (zN z 1) m (1 <<< (nI k &&& 31)) ar) 4 (va_up (ar 4) k (lvI (ar 4 k)))) 6 (va_up (ar 6) k (sc 3 + mtI (ar 4 k))))) (x := nI c + mtI (nI v)) hk (by rw [va_up_self, hS.1.2.2.2.1, ← e4, hv]; rfl) (fun j j4 j6 => by rw [va_up_ne _ _ j6, va_up_ne _ _ j4])
      refine V_istore X (lv' := [(9, _), (0, _), (1, _), (2, _), (3, _), (4, _), (5, _), (6, _), (7, _), (8, _)]) (by decide) rfl dL_answers_35 ?_
      refine V_aload_n X rfl dL_answers_37 ?_
      refine V_iload_n X rfl dL_answers_38 ?_
      refine V_callVp X (rest := _) (c_X5_level_t _ _ _ al fi z hR k hk) (hR.2.1 (15, 0) dm15) rfl gL_answers_X5_level rfl hdv_X5_level (Nat.le_of_ble_eq_true rfl) (Nat.le_of_ble_eq_true rfl) rfl (Nat.le_of_ble_eq_true rfl) dL_answers_39 ?_
      refine V.top (y := nI v) (hv) ?_
      refine V_istore X (lv' := [(10, _), (9, _), (0, _), (1, _), (2, _), (3, _), (4, _), (5, _), (6, _), (7, _), (8, _)]) (by decide) rfl dL_answers_42 ?_
      refine V_aload_n X rfl dL_answers_44 ?_
      refine V_iload_n X rfl dL_answers_45 ?_
      refine V_if_eq X (tgt := 53) (by decide) dL_answers_46 (fun hc46 => ?_) (fun hc46 => absurd hc46 (by decide))
      refine V_iconst X (v := 3) (by decide) dL_answers_53 ?_
      refine V_iload_n X rfl dL_answers_54 ?_
      refine V_iload_n X rfl dL_answers_55 ?_
      refine V_callSH (kc' := 0) (ks' := 0) X (rest := _) (c_L_asks_d _ _ _ al fi z hR m k hm hk hw) gL_answers_L_asks rfl hds_L_asks (Nat.le_of_ble_eq_true rfl) (Nat.le_of_ble_eq_true rfl) rfl (Nat.le_of_ble_eq_true rfl) (by omega) (by omega) dL_answers_56 (fun r9 f9 h9 => ?_)
      obtain ⟨rfl, hR, hF9⟩ := h9
      have hA := hA.fr hF9
      refine V_istore X (lv' := [(11, _), (10, _), (9, _), (0, _), (1, _), (2, _), (3, _), (4, _), (5, _), (6, _), (7, _), (8, _)]) (by decide) rfl dL_answers_59 ?_
      refine V_iload X rfl dL_answers_61 ?_
      refine V_if_ne X (tgt := 79) (by decide) dL_answers_63 (fun hc63 => ?_) (fun hc63 => absurd hc63 (by decide))
      refine V_iload_n X rfl dL_answers_79 ?_
      refine V_if_eq X (tgt := 153) (by decide) dL_answers_80 (fun hc80 => ?_) (fun hc80 => absurd hc80 (by decide))
      refine V_aload X rfl dL_answers_153 ?_
      refine V_aload X rfl dL_answers_155 ?_
      refine V_aload X rfl dL_answers_157 ?_
      refine V_iload_n X rfl dL_answers_159 ?_
      refine V_iconst X (v := 1) (by decide) dL_answers_160 ?_
      refine V_iload_n X rfl dL_answers_161 ?_
      refine V_ishl X dL_answers_162 ?_
      refine V_callS (kc' := 0) (ks' := 0) X (rest := _) (c_L_ends _ _ _ A lq la hA (zN z 1) m hI.c2 hI.nt (by omega) P S Q M hI.2.1 _) gL_answers_L_ends rfl hds_L_ends (Nat.le_of_ble_eq_true rfl) (Nat.le_of_ble_eq_true rfl) rfl (Nat.le_of_ble_eq_true rfl) (by omega) (by omega) dL_answers_163 (fun r9 f9 h9 => ?_)
      obtain ⟨rfl, hA, hF2⟩ := h9
      have hR := hR.keepA hF2
      refine V_iload X rfl dL_answers_166 ?_
      refine V_aload_n X rfl dL_answers_168 ?_
      refine V_aload X rfl dL_answers_169 ?_
      refine V_aload X rfl dL_answers_171 ?_
      refine V_iload_n X rfl dL_answers_173 ?_
      refine V_iload X rfl dL_answers_174 ?_
      refine V_callS (kc' := 0) (ks' := 0) X (rest := _) (c_L_bar _ _ _ A _ _ hA (al (15, 0)) k v (nI c) ((fu_ne _ _ (Or.inl (by decide))).trans hI.c0) (by omega) hv5) gL_answers_L_bar rfl hds_L_bar (Nat.le_of_ble_eq_true rfl) (Nat.le_of_ble_eq_true rfl) rfl (Nat.le_of_ble_eq_true rfl) (by omega) (by omega) dL_answers_176 (fun r9 f9 h9 => ?_)
      obtain ⟨rfl, hA, hF3⟩ := h9
      have hR := hR.keepA hF3
      refine V_icmp_ne X (tgt := 208) (by decide) dL_answers_179 (fun hc179 => absurd hc179 (fun q => q (by rw [hdec.2, ← e4, hv]))) (fun hc179 => ?_)
      refine V_aload_n X rfl dL_answers_182 ?_
      refine V_iload_n X rfl dL_answers_183 ?_
      refine V_callVp X (rest := _) (c_X5_level_t _ _ _ al _ z hR k hk) (hR.2.1 (15, 0) dm15) rfl gL_answers_X5_level rfl hdv_X5_level (Nat.le_of_ble_eq_true rfl) (Nat.le_of_ble_eq_true rfl) rfl (Nat.le_of_ble_eq_true rfl) dL_answers_184 ?_
      refine V.top (y := lvI (nI v)) (hlv) ?_
      refine V_iload X rfl dL_answers_187 ?_
      refine V_iconst X (v := 5) (by decide) dL_answers_189 ?_
      refine V_icmp_ge X (tgt := 200) (by decide) dL_answers_190 (fun hc190 => ?_) (fun hc190 => ?_)
      · refine V_iconst X (v := 5) (by decide) dL_answers_200 ?_
        refine V_icmp_ne X (tgt := 208) (by decide) dL_answers_201 (fun hc201 => absurd hc201 (fun q => q (by unfold lvI; rw [if_pos hc190, show v = 5 by have := (nI_leI (a := 5) (b := v) (by decide) (by omega)).mp hc190; omega]; rfl))) (fun hc201 => ?_)
        refine V_iconst X (v := 1) (by decide) dL_answers_204 ?_
        refine V_goto X (tgt := 209) (by decide) dL_answers_205 ?_
        exact V_zret X hr (by decide) (⟨rfl, al, _, z, sc, (va_up (va_up (endA (zN z 0) (zN z 1) m (1 <<< (nI k &&& 31)) ar) 4 (va_up (ar 4) k (lvI (ar 4 k)))) 6 (va_up (ar 6) k (sc 3 + mtI (ar 4 k)))), _, _, P, S, _, _, rfl, hR, hA, hdec.1, hBd, rfl, rfl, rfl, hIe⟩) dL_answers_209
      · refine V_iload X rfl dL_answers_193 ?_
        refine V_iconst X (v := 1) (by decide) dL_answers_195 ?_
        refine V_iadd X dL_answers_196 ?_
        refine V_goto X (tgt := 201) (by decide) dL_answers_197 ?_
        refine V_icmp_ne X (tgt := 208) (by decide) dL_answers_201 (fun hc201 => absurd hc201 (fun q => q (by unfold lvI; rw [if_neg hc190]))) (fun hc201 => ?_)
        refine V_iconst X (v := 1) (by decide) dL_answers_204 ?_
        refine V_goto X (tgt := 209) (by decide) dL_answers_205 ?_
        exact V_zret X hr (by decide) (⟨rfl, al, _, z, sc, (va_up (va_up (endA (zN z 0) (zN z 1) m (1 <<< (nI k &&& 31)) ar) 4 (va_up (ar 4) k (lvI (ar 4 k)))) 6 (va_up (ar 6) k (sc 3 + mtI (ar 4 k)))), _, _, P, S, _, _, rfl, hR, hA, hdec.1, hBd, rfl, rfl, rfl, hIe⟩) dL_answers_209
  refine V.join (P := fun w => w = bI (awC fi m (nI k))) 35 (fun w35 hw35 => ?_) (fun hj35 => ?_)
  · subst hw35
    refine V.lvs (lv' := [(0, _), (1, _), (2, _), (3, _), (4, _), (5, _), (6, _), (7, _), (8, _)]) rfl ?_
    exact T9
  · refine V_aload X rfl dL_answers_0 ?_
    refine V_iload_n X rfl dL_answers_2 ?_
    refine V_ald X hA 1 (m) 31 (by decide) rfl (by omega) (rfl) dL_answers_3 ?_
    refine V_bipush X (v := 18) (by decide) dL_answers_4 ?_
    refine V_ishr X dL_answers_6 ?_
    refine V_iconst X (v := 3) (by decide) dL_answers_7 ?_
    refine V_iand X dL_answers_8 ?_
    refine V.top (y := nI T) (by rw [u3]; exact j_st hU hT) ?_
    refine V_if_ne X (tgt := 34) (by decide) dL_answers_9 (fun hc9 => ?_) (fun hc9 => ?_)
    · refine V_iconst X (v := 0) (by decide) dL_answers_34 ?_
      exact hj35 _ ((by rw [haw, decide_eq_false (fun q => hc9 (by rw [← u2, q])), Bool.false_and]; rfl))
    · refine V_aload X rfl dL_answers_12 ?_
      refine V_iload_n X rfl dL_answers_14 ?_
      refine V_ald X hA 1 (m) 31 (by decide) rfl (by omega) (rfl) dL_answers_15 ?_
      refine V_aload X rfl dL_answers_16 ?_
      refine V_iload_n X rfl dL_answers_18 ?_
      refine V_ald X hA 4 (m) 31 (by decide) rfl (by omega) (rfl) dL_answers_19 ?_
      refine V_iconst X (v := (-1)) (by decide) dL_answers_20 ?_
      refine V_ixor X dL_answers_21 ?_
      refine V_iand X dL_answers_22 ?_
      refine V_iload_n X rfl dL_answers_23 ?_
      refine V_callSp X (rest := _) (c_L_has _ _ _ _ _) gL_answers_L_has rfl hds_L_has (Nat.le_of_ble_eq_true rfl) (Nat.le_of_ble_eq_true rfl) rfl (Nat.le_of_ble_eq_true rfl) dL_answers_24 ?_
      refine V_if_eq X (tgt := 34) (by decide) dL_answers_27 (fun hc27 => ?_) (fun hc27 => ?_)
      · refine V_iconst X (v := 0) (by decide) dL_answers_34 ?_
        exact hj35 _ ((by rw [haw, bI_eq0 hc27, Bool.and_false]; rfl))
      · refine V_iconst X (v := 1) (by decide) dL_answers_30 ?_
        refine V_goto X (tgt := 35) (by decide) dL_answers_31 ?_
        exact hj35 _ ((by rw [haw, bI_ne0 hc27, decide_eq_true (u2.trans hc9)]; rfl))
