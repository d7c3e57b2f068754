/-! ===== the law: lobby ===== -/
theorem z_5 : ∀ j, j < 5 → defaultValue (tyX5 j) = vp_V [.null, .null, .null, .null, .int 0] j := fun j hj => by
  have : j = 0 ∨ j = 1 ∨ j = 2 ∨ j = 3 ∨ j = 4 := by omega
  rcases this with rfl | rfl | rfl | rfl | rfl <;> rfl
theorem hds_5i : yX5_init.cls ≠ "java/lang/invoke/MethodHandle" ∧ yX5_init.cls ≠ "java/lang/invoke/VarHandle" ∧ (parseMethodDescriptor yX5_init.desc).map (fun d => d.parameters.length) = some 0 := by decide +kernel
section VTL
variable {K : VK} {cc : ByteArray} {own : String} {Ts : List Cond} {nL fr lo : Nat} {f : Wo} {kc ks pc : Nat} {lv : List (Nat × Value)} {st : List Value}
theorem V_newTJ (X : CX K cc own Ts nL fr lo) {kc' ks' N : Nat} {n : Int32} (t : Tg) (harr : Cond.arrayClass .long ∈ Ts) (hn : ¬ n < 0) (hN : n.toNatClampNeg = N) (hb : N * 8 ≤ 536870912) (hkc : kc' + 1 ≤ kc) (hks : ks' + N ≤ ks) (hdg : decode cc pc = .ok (.newarray .long, 2)) (k : ∀ (q : Nat) (f' : Wo), FrN f f' → f' q = some (t, oJ (kG K) N (fun _ => 0)) → V K f' kc' ks' (pc + 2) lv (.ref q :: st)) : V K f kc ks pc lv (.int n :: st) :=
  V_newJ X t harr hn hN hb hkc hks hdg (fun q hq => k q _ (FrN.rf.st hq _ _) (w_up_self _ _ _ _))
end VTL
theorem IV.zero : IV 0 0 0 0 (fun _ _ => 0) (fun _ => 0) (fun _ _ => 0) (fun _ => 0) (fun _ => 0) (fun _ => 0) (fun _ => 0) := ⟨⟨rfl, rfl, rfl, rfl, by decide, by decide, by decide, by decide⟩, fun t ht => absurd ht (Nat.not_lt_zero t), fun t ht => absurd ht (Nat.not_lt_zero t), fun t ht => absurd ht (Nat.not_lt_zero t), fun t ht => absurd ht (Nat.not_lt_zero t), fun _ _ _ => rfl⟩
theorem hinL_lobby_X5 : ∀ w ∈ wsX50, w ∈ wsL_lobby := by decide +kernel
set_option maxHeartbeats 4000000 in
set_option maxRecDepth 100000 in
theorem c_L_lobby (l : Launch) (hl : l.stackTraces = false) (G : GG) (f : Wo) (hg0 : ∃ g0, f (gE G) = some ((99, 0), oQ G 0 g0)) (b0 : Nat) (hb0 : b0 ≤ 400) : Ct l yL_lobby wsL_lobby 31 731 G [.ref (gB G), .int (nI b0)] f (fun r f' => r = some (.int 1) ∧ ∃ g0, f' (gE G) = some ((99, 0), oQ G 0 g0)) 32300 595000 := by
  refine Ct.of (cc := cL_lobby) (maxL := 14) (ret := (some .boolean)) (by decide) rfl (Nat.le_of_ble_eq_true rfl) (lv := [(0, _), (1, _)]) rfl (by simp [Value.category]) ?_
  intro K X hL hG hr hnm
  subst hL; subst hG
  have L : ∀ (o : Nat) (A : Nat → Nat) (n k : Nat), 60 - k = n → k ≤ 60 → ∀ (f : Wo) (c np nt nm : Nat), c ≤ 30 * k → nt ≤ k → (1 ≤ k → 0 < np) → LW (kG K) A o f c np nt nm → V K f ((60 - k) * 537) ((60 - k) * 9910) 51 [(0, .ref (gB (kG K))), (1, .int (nI b0)), (2, .ref o), (3, .ref (A 0)), (4, .ref (A 1)), (5, .ref (A 2)), (6, .ref (A 3)), (7, .ref (A 4)), (8, .ref (A 5)), (9, .ref (A 6)), (10, .int (nI k))] [] := by
    intro o A n
    induction n using Nat.strongRecOn with
    | ind n ih =>
      intro k hn hi f c np nt nm hck hnk hnp1 hLW
      refine V_iload X rfl dL_lobby_51 ?_
      refine V_bipush X (v := 60) (by decide) dL_lobby_53 ?_
      refine V_icmp_ge X (tgt := 179) (by decide) dL_lobby_55 (fun hc55 => ?_) (fun hc55 => ?_)
      · refine V_iconst X (v := 1) (by decide) dL_lobby_179 ?_
        exact V_zret X hr (by decide) (⟨rfl, by obtain ⟨al, fi, z, sc, ar, lq, la, P, S, Q, M, -, hR, -⟩ := hLW; exact hR.2.2.2⟩) dL_lobby_180
      · have hlt : k < 60 := Nat.lt_of_not_le fun q => hc55 (nI_le (a := 60) q (by omega))
        refine V_aload_n X rfl dL_lobby_58 ?_
        refine V_iload_n X rfl dL_lobby_59 ?_
        refine V_iconst X (v := 3) (by decide) dL_lobby_60 ?_
        refine V_iload X rfl dL_lobby_61 ?_
        refine V_imul X dL_lobby_63 ?_
        refine V.top (y := nI (3 * k)) (by rw [show (3 : Int32) = nI 3 from rfl, pk_mul]) ?_
        refine V_iadd X dL_lobby_64 ?_
        refine V.top (y := nI (b0 + 3 * k)) (nI_add _ _) ?_
        refine V_iconst X (v := 1) (by decide) dL_lobby_65 ?_
        refine V_iadd X dL_lobby_66 ?_
        refine V.top (y := nI (b0 + 3 * k + 1)) (nI_1 _) ?_
        refine V_ldc X (v := 1073741824) (by decide +kernel) dL_lobby_67 ?_
        refine V.top (y := nI 1073741824) (rfl) ?_
        refine V_callS (kc' := (60 - k) * 537) (ks' := (60 - k) * 9910) X (rest := _) (c_L_draw _ _ _ (b0 + 3 * k + 1) 1073741824 (by omega) (by decide) (by decide)) gL_lobby_L_draw rfl hds_L_draw (Nat.le_of_ble_eq_true rfl) (Nat.le_of_ble_eq_true rfl) rfl (Nat.le_of_ble_eq_true rfl) (by omega) (by omega) dL_lobby_69 (fun r9 f9 h9 => ?_)
        obtain ⟨⟨x, hx, rfl⟩, h9e⟩ := h9
        have h9f := h9e.symm
        subst h9f
        refine V_istore X (lv' := [(11, _), (0, _), (1, _), (2, _), (3, _), (4, _), (5, _), (6, _), (7, _), (8, _), (9, _), (10, _)]) (by decide) rfl dL_lobby_72 ?_
        refine V_aload_n X rfl dL_lobby_74 ?_
        refine V_iload_n X rfl dL_lobby_75 ?_
        refine V_iconst X (v := 3) (by decide) dL_lobby_76 ?_
        refine V_iload X rfl dL_lobby_77 ?_
        refine V_imul X dL_lobby_79 ?_
        refine V.top (y := nI (3 * k)) (by rw [show (3 : Int32) = nI 3 from rfl, pk_mul]) ?_
        refine V_iadd X dL_lobby_80 ?_
        refine V.top (y := nI (b0 + 3 * k)) (nI_add _ _) ?_
        refine V_iconst X (v := 2) (by decide) dL_lobby_81 ?_
        refine V_iadd X dL_lobby_82 ?_
        refine V.top (y := nI (b0 + 3 * k + 2)) (nI_add _ 2) ?_
        refine V_ldc X (v := 1073741824) (by decide +kernel) dL_lobby_83 ?_
        refine V.top (y := nI 1073741824) (rfl) ?_
        refine V_callS (kc' := (60 - k) * 537) (ks' := (60 - k) * 9910) X (rest := _) (c_L_draw _ _ _ (b0 + 3 * k + 2) 1073741824 (by omega) (by decide) (by decide)) gL_lobby_L_draw rfl hds_L_draw (Nat.le_of_ble_eq_true rfl) (Nat.le_of_ble_eq_true rfl) rfl (Nat.le_of_ble_eq_true rfl) (by omega) (by omega) dL_lobby_85 (fun r9 f9 h9 => ?_)
        obtain ⟨⟨y, hy, rfl⟩, h9e⟩ := h9
        have h9f := h9e.symm
        subst h9f
        refine V_istore X (lv' := [(12, _), (11, _), (0, _), (1, _), (2, _), (3, _), (4, _), (5, _), (6, _), (7, _), (8, _), (9, _), (10, _)]) (by decide) rfl dL_lobby_88 ?_
        refine V.join (P := fun w => ∃ what, what < 21 ∧ (k < 8 → what = 0) ∧ (what ≠ 0 → 8 ≤ k) ∧ w = nI what) 124 (fun w124 hw124 => ?_) (fun hj124 => ?_)
        · obtain ⟨what, hwh, hw8, hw0, rfl⟩ := hw124
          have hwp : what ≠ 0 → 0 < np := fun q => hnp1 (by have := hw0 q; omega)
          refine V_istore X (lv' := [(13, _), (12, _), (11, _), (0, _), (1, _), (2, _), (3, _), (4, _), (5, _), (6, _), (7, _), (8, _), (9, _), (10, _)]) (by decide) rfl dL_lobby_124 ?_
          refine V_aload_n X rfl dL_lobby_126 ?_
          refine V_iload X rfl dL_lobby_127 ?_
          refine V_iload X rfl dL_lobby_129 ?_
          refine V_iload X rfl dL_lobby_131 ?_
          refine V_aload_n X rfl dL_lobby_133 ?_
          refine V_aload X rfl dL_lobby_134 ?_
          refine V_aload X rfl dL_lobby_136 ?_
          refine V_aload X rfl dL_lobby_138 ?_
          refine V_aload X rfl dL_lobby_140 ?_
          refine V_aload X rfl dL_lobby_142 ?_
          refine V_aload X rfl dL_lobby_144 ?_
          refine V_callS (kc' := (60 - (k + 1)) * 537 + 60) (ks' := (60 - (k + 1)) * 9910 + 360) X (rest := _) (c_L_step _ hl _ _ A o c np nt nm hLW (by omega) (by omega) what x y hwh hx hy hwp) gL_lobby_L_step rfl hds_L_step (Nat.le_of_ble_eq_true rfl) (Nat.le_of_ble_eq_true rfl) rfl (Nat.le_of_ble_eq_true rfl) (by omega) (by omega) dL_lobby_146 (fun r9 f9 h9 => ?_)
          obtain ⟨rfl, c2, np2, nt2, nm2, q1, q2, q3, q4, hL2⟩ := h9
          refine V_if_eq X (tgt := 171) (by decide) dL_lobby_149 (fun hc149 => absurd hc149 (by decide)) (fun hc149 => ?_)
          have hL3 := hL2
          have hnp3 : 0 < np2 := by
            by_cases h : what = 0
            · exact q3 h
            · have := hwp h
              omega
          obtain ⟨al, fi, z, sc, ar, lq, la, P, S, Q, M, rfl, hR, hA, hS, hB, rfl, rfl, rfl, hI⟩ := hL2
          refine V_aload_n X rfl dL_lobby_152 ?_
          refine V_aload_n X rfl dL_lobby_153 ?_
          refine V_aload X rfl dL_lobby_154 ?_
          refine V_aload X rfl dL_lobby_156 ?_
          refine V_aload X rfl dL_lobby_158 ?_
          refine V_iload X rfl dL_lobby_160 ?_
          refine V_bipush X (v := 9) (by decide) dL_lobby_162 ?_
          refine V_idiv X (by decide) dL_lobby_164 ?_
          refine V.top (y := nI (x / 9)) (pk_div (d := 9) (by omega) (by decide) (by decide)) ?_
          refine V_callS (kc' := (60 - (k + 1)) * 537) (ks' := (60 - (k + 1)) * 9910) X (rest := _) (c_L_isLobby _ hl _ _ al fi z hR A lq la hA c2 sc ar hS hB P S Q M hI (x / 9) (by omega)) gL_lobby_L_isLobby rfl hds_L_isLobby (Nat.le_of_ble_eq_true rfl) (Nat.le_of_ble_eq_true rfl) rfl (Nat.le_of_ble_eq_true rfl) (by omega) (by omega) dL_lobby_165 (fun r9 f9 h9 => ?_)
          obtain ⟨rfl, h9e⟩ := h9
          have h9f := h9e.symm
          subst h9f
          refine V_if_ne X (tgt := 173) (by decide) dL_lobby_168 (fun hc168 => ?_) (fun hc168 => absurd hc168 (by decide))
          refine V_iinc X (lv' := [(10, _), (13, _), (12, _), (11, _), (0, _), (1, _), (2, _), (3, _), (4, _), (5, _), (6, _), (7, _), (8, _), (9, _)]) (v := nI (k + 1)) rfl (nI_1 _) (by decide) rfl dL_lobby_173 ?_
          refine V_goto X (tgt := 51) (by decide) dL_lobby_176 ?_
          refine V.lvs (lv' := [(0, _), (1, _), (2, _), (3, _), (4, _), (5, _), (6, _), (7, _), (8, _), (9, _), (10, _)]) rfl ?_
          exact ih (60 - (k + 1)) (by omega) (k + 1) rfl (by omega) _ c2 _ _ _ (by omega) (by omega) (fun _ => hnp3) hL3
        · refine V_iload X rfl dL_lobby_90 ?_
          refine V_bipush X (v := 8) (by decide) dL_lobby_92 ?_
          refine V_icmp_ge X (tgt := 101) (by decide) dL_lobby_94 (fun hc94 => ?_) (fun hc94 => ?_)
          · refine V_iload X rfl dL_lobby_101 ?_
            refine V_bipush X (v := 14) (by decide) dL_lobby_103 ?_
            refine V_icmp_ge X (tgt := 112) (by decide) dL_lobby_105 (fun hc105 => ?_) (fun hc105 => ?_)
            · refine V_aload_n X rfl dL_lobby_112 ?_
              refine V_iload_n X rfl dL_lobby_113 ?_
              refine V_iconst X (v := 3) (by decide) dL_lobby_114 ?_
              refine V_iload X rfl dL_lobby_115 ?_
              refine V_imul X dL_lobby_117 ?_
              refine V.top (y := nI (3 * k)) (by rw [show (3 : Int32) = nI 3 from rfl, pk_mul]) ?_
              refine V_iadd X dL_lobby_118 ?_
              refine V.top (y := nI (b0 + 3 * k)) (nI_add _ _) ?_
              refine V_bipush X (v := 21) (by decide) dL_lobby_119 ?_
              refine V.top (y := nI 21) (rfl) ?_
              refine V_callS (kc' := (60 - k) * 537) (ks' := (60 - k) * 9910) X (rest := _) (c_L_draw _ _ _ (b0 + 3 * k) 21 (by omega) (by decide) (by decide)) gL_lobby_L_draw rfl hds_L_draw (Nat.le_of_ble_eq_true rfl) (Nat.le_of_ble_eq_true rfl) rfl (Nat.le_of_ble_eq_true rfl) (by omega) (by omega) dL_lobby_121 (fun r9 f9 h9 => ?_)
              obtain ⟨⟨wd, hwd, rfl⟩, h9e⟩ := h9
              have h9f := h9e.symm
              subst h9f
              exact hj124 _ (⟨wd, hwd, fun q => absurd hc94 (by have := nI_lt (a := k) (b := 8) q (by decide); exact Int32.not_le.mpr this), fun _ => by have := (nI_leI (a := 8) (b := k) (by decide) (by omega)).mp hc94; omega, rfl⟩)
            · refine V_iconst X (v := 1) (by decide) dL_lobby_108 ?_
              refine V_goto X (tgt := 124) (by decide) dL_lobby_109 ?_
              exact hj124 _ (⟨1, by decide, fun q => absurd hc94 (by have := nI_lt (a := k) (b := 8) q (by decide); exact Int32.not_le.mpr this), fun _ => by have := (nI_leI (a := 8) (b := k) (by decide) (by omega)).mp hc94; omega, rfl⟩)
          · refine V_iconst X (v := 0) (by decide) dL_lobby_97 ?_
            refine V_goto X (tgt := 124) (by decide) dL_lobby_98 ?_
            exact hj124 _ (⟨0, by decide, fun _ => rfl, fun q => absurd rfl q, rfl⟩)
  obtain ⟨g0, hg0⟩ := hg0
  refine V_new X (C := RX5) (T := TX5) (N := 5) (ci := 5) (index := 15) (kc' := 32299) (ks' := 594995) (ty := tyX5) (fs := [.null, .null, .null, .null, .int 0]) (15, 0) rfl hinL_lobby_X5 tyX5_ok (by decide +kernel) (by decide +kernel) (by decide +kernel) z_5 (by omega) (by omega) dL_lobby_0 (fun x hx => ?_)
  have hg1 : (w_up f x (15, 0) (oO 5 [.null, .null, .null, .null, .int 0])) (gE (kG K)) = some ((99, 0), oQ (kG K) 0 g0) := (w_up_ne _ _ _ (w_neN hg0 hx)).trans hg0
  refine V_dup X rfl dL_lobby_3 ?_
  refine V_callI (kc' := 32293) (ks' := 594975) X (rest := [.ref x]) (c_X5_init _ _ _ x _ (w_up_self _ _ _ _) hg1) gL_lobby_X5_init rfl (by decide +kernel) (by decide +kernel) (by decide +kernel) rfl hds_5i (Nat.le_of_ble_eq_true rfl) (Nat.le_of_ble_eq_true rfl) rfl (Nat.le_of_ble_eq_true rfl) (by omega) (by omega) dL_lobby_4 (fun r f1 h9 => ?_)
  obtain ⟨al, rfl, rfl, hR1, -⟩ := h9
  refine V_astore_n X (lv' := [(2, _), (0, _), (1, _)]) (by decide) rfl dL_lobby_7 ?_
  refine V_bipush X (v := 60) (by decide) dL_lobby_8 ?_
  refine V_newTJ X (kc' := 32292) (ks' := 594915) (N := 60) (41, 0) (by decide +kernel) (by decide) (by decide) (by decide) (by omega) (by omega) dL_lobby_10 (fun q0 f2 hN0 hT0 => ?_)
  refine V_astore_n X (lv' := [(3, _), (2, _), (0, _), (1, _)]) (by decide) rfl dL_lobby_12 ?_
  refine V_bipush X (v := 31) (by decide) dL_lobby_13 ?_
  refine V_newT X (kc' := 32291) (ks' := 594884) (N := 31) (41, 1) (by decide +kernel) (by decide) (by decide) (by decide) (by omega) (by omega) dL_lobby_15 (fun q1 f3 hN1 hT1 => ?_)
  refine V_astore X (lv' := [(4, _), (3, _), (2, _), (0, _), (1, _)]) (by decide) rfl dL_lobby_17 ?_
  refine V_bipush X (v := 18) (by decide) dL_lobby_19 ?_
  refine V_newT X (kc' := 32290) (ks' := 594866) (N := 18) (41, 2) (by decide +kernel) (by decide) (by decide) (by decide) (by omega) (by omega) dL_lobby_21 (fun q2 f4 hN2 hT2 => ?_)
  refine V_astore X (lv' := [(5, _), (4, _), (3, _), (2, _), (0, _), (1, _)]) (by decide) rfl dL_lobby_23 ?_
  refine V_bipush X (v := 18) (by decide) dL_lobby_25 ?_
  refine V_newT X (kc' := 32289) (ks' := 594848) (N := 18) (41, 3) (by decide +kernel) (by decide) (by decide) (by decide) (by omega) (by omega) dL_lobby_27 (fun q3 f5 hN3 hT3 => ?_)
  refine V_astore X (lv' := [(6, _), (5, _), (4, _), (3, _), (2, _), (0, _), (1, _)]) (by decide) rfl dL_lobby_29 ?_
  refine V_bipush X (v := 31) (by decide) dL_lobby_31 ?_
  refine V_newT X (kc' := 32288) (ks' := 594817) (N := 31) (41, 4) (by decide +kernel) (by decide) (by decide) (by decide) (by omega) (by omega) dL_lobby_33 (fun q4 f6 hN4 hT4 => ?_)
  refine V_astore X (lv' := [(7, _), (6, _), (5, _), (4, _), (3, _), (2, _), (0, _), (1, _)]) (by decide) rfl dL_lobby_35 ?_
  refine V_bipush X (v := 31) (by decide) dL_lobby_37 ?_
  refine V_newT X (kc' := 32287) (ks' := 594786) (N := 31) (41, 5) (by decide +kernel) (by decide) (by decide) (by decide) (by omega) (by omega) dL_lobby_39 (fun q5 f7 hN5 hT5 => ?_)
  refine V_astore X (lv' := [(8, _), (7, _), (6, _), (5, _), (4, _), (3, _), (2, _), (0, _), (1, _)]) (by decide) rfl dL_lobby_41 ?_
  refine V_iconst X (v := 4) (by decide) dL_lobby_43 ?_
  refine V_newT X (kc' := 32286) (ks' := 594782) (N := 4) (41, 6) (by decide +kernel) (by decide) (by decide) (by decide) (by omega) (by omega) dL_lobby_44 (fun q6 f8 hN6 hT6 => ?_)
  refine V_astore X (lv' := [(9, _), (8, _), (7, _), (6, _), (5, _), (4, _), (3, _), (2, _), (0, _), (1, _)]) (by decide) rfl dL_lobby_46 ?_
  have hN16 := hN1.trans (hN2.trans (hN3.trans (hN4.trans (hN5.trans hN6))))
  have hN26 := hN2.trans (hN3.trans (hN4.trans (hN5.trans hN6)))
  have hN36 := hN3.trans (hN4.trans (hN5.trans hN6))
  have hN46 := hN4.trans (hN5.trans hN6)
  have hN56 := hN5.trans hN6
  obtain ⟨A, hA0, hA1, hA2, hA3, hA4, hA5, hA6⟩ : ∃ A : Nat → Nat, A 0 = q0 ∧ A 1 = q1 ∧ A 2 = q2 ∧ A 3 = q3 ∧ A 4 = q4 ∧ A 5 = q5 ∧ A 6 = q6 := ⟨fun j => if j = 0 then q0 else if j = 1 then q1 else if j = 2 then q2 else if j = 3 then q3 else if j = 4 then q4 else if j = 5 then q5 else q6, rfl, rfl, rfl, rfl, rfl, rfl, rfl⟩
  have hLA : LA (kG K) A (fun _ => 0) (fun _ _ => 0) f8 := by
    refine ⟨by rw [hA0]; exact hN16 _ _ hT0, fun i h1 h2 => ?_⟩
    rcases (show i = 1 ∨ i = 2 ∨ i = 3 ∨ i = 4 ∨ i = 5 ∨ i = 6 by omega) with rfl | rfl | rfl | rfl | rfl | rfl
    · rw [hA1]; exact hN26 _ _ hT1
    · rw [hA2]; exact hN36 _ _ hT2
    · rw [hA3]; exact hN46 _ _ hT3
    · rw [hA4]; exact hN56 _ _ hT4
    · rw [hA5]; exact hN6 _ _ hT5
    · rw [hA6]; exact hT6
  have hR8 := hR1.keepA (hN0.trans hN16).a
  rw [← hA0, ← hA1, ← hA2, ← hA3, ← hA4, ← hA5, ← hA6]
  refine V_iconst X (v := 0) (by decide) dL_lobby_48 ?_
  refine V_istore X (lv' := [(10, _), (9, _), (8, _), (7, _), (6, _), (5, _), (4, _), (3, _), (2, _), (0, _), (1, _)]) (by decide) rfl dL_lobby_49 ?_
  refine V.lvs (lv' := [(0, _), (1, _), (2, _), (3, _), (4, _), (5, _), (6, _), (7, _), (8, _), (9, _), (10, _)]) rfl ?_
  refine V.bud (kc' := (60 - 0) * 537) (ks' := (60 - 0) * 9910) (by omega) (by omega) ?_
  exact L _ A _ 0 rfl (Nat.zero_le _) f8 0 0 0 0 (by omega) (by omega) (fun q => absurd q (by decide)) ⟨al, f0C, z0C, fun _ => 0, fun _ _ => 0, fun _ => 0, fun _ _ => 0, fun _ => 0, fun _ => 0, fun _ => 0, fun _ => 0, rfl, hR8, hLA, SB.zero.1, SB.zero.2, rfl, rfl, rfl, IV.zero⟩
-- room of lobby: 31 731
set_option maxHeartbeats 4000000 in
set_option maxRecDepth 100000 in
theorem law_body {K : VK} (X : CX K cL_law RL wsL_law 1 2048 84000) (hl : (kL K).stackTraces = false) {f0 : Wo} (hf : ∃ g0, f0 (gE (kG K)) = some ((99, 0), oQ (kG K) 0 g0)) (kk : ∀ (f : Wo) (kc ks : Nat) (lv : List (Nat × Value)), V K f kc ks 33 lv [.int 1]) : V K f0 699500 7002683 0 [(0, .ref (gB (kG K)))] [] := by
  refine V_aload_n X rfl dL_law_0 ?_
  refine V_iconst X (v := 0) (by decide) dL_law_1 ?_
  refine V.top (y := nI 0) (rfl) ?_
  refine V_callS (kc' := 667200) (ks' := 6407683) X (rest := _) (c_L_lobby _ hl _ _ hf 0 (by decide)) gL_law_L_lobby rfl hds_L_lobby (Nat.le_of_ble_eq_true rfl) (Nat.le_of_ble_eq_true rfl) rfl (Nat.le_of_ble_eq_true rfl) (by omega) (by omega) dL_law_2 (fun r9 f9 h9 => ?_)
  obtain ⟨rfl, hg1⟩ := h9
  refine V_if_eq X (tgt := 32) (by decide) dL_law_5 (fun hc5 => absurd hc5 (by decide)) (fun hc5 => ?_)
  refine V_aload_n X rfl dL_law_8 ?_
  refine V_sipush X (v := 185) (by decide) dL_law_9 ?_
  refine V.top (y := nI 185) (rfl) ?_
  refine V_callS (kc' := 634900) (ks' := 5812683) X (rest := _) (c_L_lobby _ hl _ _ hg1 185 (by decide)) gL_law_L_lobby rfl hds_L_lobby (Nat.le_of_ble_eq_true rfl) (Nat.le_of_ble_eq_true rfl) rfl (Nat.le_of_ble_eq_true rfl) (by omega) (by omega) dL_law_12 (fun r9 f9 h9 => ?_)
  obtain ⟨rfl, hg2⟩ := h9
  refine V_if_eq X (tgt := 32) (by decide) dL_law_15 (fun hc15 => absurd hc15 (by decide)) (fun hc15 => ?_)
  refine V_aload_n X rfl dL_law_18 ?_
  refine V_sipush X (v := 370) (by decide) dL_law_19 ?_
  refine V.top (y := nI 370) (rfl) ?_
  refine V_callS (kc' := 602600) (ks' := 5217683) X (rest := _) (c_L_lobby _ hl _ _ hg2 370 (by decide)) gL_law_L_lobby rfl hds_L_lobby (Nat.le_of_ble_eq_true rfl) (Nat.le_of_ble_eq_true rfl) rfl (Nat.le_of_ble_eq_true rfl) (by omega) (by omega) dL_law_22 (fun r9 f9 h9 => ?_)
  obtain ⟨rfl, hg3⟩ := h9
  refine V_if_eq X (tgt := 32) (by decide) dL_law_25 (fun hc25 => absurd hc25 (by decide)) (fun hc25 => ?_)
  refine V_iconst X (v := 1) (by decide) dL_law_28 ?_
  refine V_goto X (tgt := 33) (by decide) dL_law_29 ?_
  exact kk _ _ _ _
