/-! ===== queue ===== -/
theorem qtz : ∀ j, j < 5 → defaultValue (tyX2 j) = vp_V [.int 0, .int 0, .null, .int 0, .int 0] j := fun j hj => by
  have : j = 0 ∨ j = 1 ∨ j = 2 ∨ j = 3 ∨ j = 4 := by omega
  rcases this with rfl | rfl | rfl | rfl | rfl <;> rfl
theorem hds2_X2_init : yX2_init.cls ≠ "java/lang/invoke/MethodHandle" ∧ yX2_init.cls ≠ "java/lang/invoke/VarHandle" ∧ (parseMethodDescriptor yX2_init.desc).map (fun d => d.parameters.length) = some 2 := by decide +kernel
theorem qcap (xs : List Nat) (h : xs.length < 10) : adC (if xs = [] then 0 else 10) xs.length + 1 ≤ (if xs = [] then 2 else 1) ∧ adS (if xs = [] then 0 else 10) xs.length + 160 ≤ (if xs = [] then 170 else 160) ∧ cap2 (if xs = [] then 0 else 10) xs.length = 10 := by
  cases xs with
  | nil => decide
  | cons a t =>
    rw [if_neg (List.cons_ne_nil a t), if_neg (List.cons_ne_nil a t), if_neg (List.cons_ne_nil a t)]
    unfold adC adS cap2
    rw [if_pos h, if_pos h, if_pos h]
    omega
theorem cap2_q {c n : Nat} (h : c ≤ 160) (h2 : n < 100) (h3 : n ≤ c) : cap2 c n ≤ 160 ∧ adC c n ≤ 1 ∧ adS c n ≤ 160 := by
  unfold cap2 adC adS
  by_cases hl : n < c
  · rw [if_pos hl, if_pos hl, if_pos hl]; omega
  · have : c = n := by omega
    subst this
    rw [if_neg hl, if_neg hl, if_neg hl]
    unfold ncap
    split <;> omega
theorem hinX5_queue_X2 : ∀ w ∈ wsX20, w ∈ wsX5_queue := by decide +kernel
theorem hinX5_queue_X5 : ∀ w ∈ wsX50, w ∈ wsX5_queue := by decide +kernel
set_option maxHeartbeats 4000000 in
set_option maxRecDepth 100000 in
theorem c_X5_queue_t (l : Launch) (G : GG) (f : Wo) (al : Tg → Nat) (fi : Nat → Nat → Int32) (z : CZ) (hR : RC G al fi z f) (s : Int32) (h1 : ¬ s = 0) (h2 : ¬ 3 < bcI s) (h3 : s >>> (nI (zN z 0) &&& 31) = 0) (h100 : zN z 1 < 100) (h5 : mqB fi (zA z) s (zN z 0) = true) (hcc : zC z (13, 1) ≤ 160) (hJ3 : (JQ s (zN z 0)).length ≤ 3) : Ct l yX5_queue wsX5_queue 13 249 G [.ref (al (15, 0)), .int s] f (fun v9 f' => ∃ (al' : Tg → Nat) (cap cm : Nat), al' (15, 0) = al (15, 0) ∧ v9 = some (.int (nI (zN z 1))) ∧ cap ≤ 160 ∧ RC G al' (quF fi (zN z 1) s (fi 18 0) (JQ s (zN z 0))) (zQ z (laQ z (JQ s (zN z 0))) (JQ s (zN z 0)) cap cm) f' ∧ FrC f f') 4 178 := by
  refine Ct.of (cc := cX5_queue) (maxL := 4) (ret := (some .int)) (by decide) rfl (Nat.le_of_ble_eq_true rfl) (lv := [(0, _), (1, _)]) rfl (by simp [Value.category]) ?_
  intro K X hL hG hr hnm
  subst hL; subst hG
  have hN0 := hR.n1 (j := 0) (by decide)
  have hN1 := hR.n1 (j := 1) (by decide)
  have L : ∀ (al1 : Tg → Nat) (h15 : al1 (15, 0) = al (15, 0)) (m : Nat) (n i : Nat), zN z 0 - i = n → i ≤ zN z 0 → ∀ f1 : Wo, QM (kG K) al1 fi z s (fi 18 0) m (JQ s i) f f1 → V K f1 (if JQ s i = [] then 2 else 1) (if JQ s i = [] then 170 else 160) 79 [(0, .ref (al1 (15, 0))), (1, .int s), (2, .ref (al1 (1, zN z 1))), (3, .int (nI i))] [] := by
    intro al1 h15 m n
    induction n using Nat.strongRecOn with
    | ind n ih =>
      intro i hn hi f1 hN
      obtain ⟨hQa, hQm, hQ, hQF⟩ := hN
      refine V_iload_n X rfl dX5_queue_79 ?_
      refine V_aload_n X rfl dX5_queue_80 ?_
      refine V_get X (T := TX5) (N := 5) (v := .ref _) 0 (hQ.2.1 (15, 0) (dm15)) rfl hinX5_queue_X5 (by decide) (by decide +kernel) (fun _ h9 => h9) (rfl) dX5_queue_81 ?_
      obtain ⟨us0, hu0⟩ := hQ.lat (dl13 (n := zN z) (k := 0) (by decide))
      have hl0 : (lst al1 (zL z) (13, 0)).length = zN z 0 := by rw [lst, List.length_map, hQ.1.2.2.1 0 (by decide), List.length_range]
      refine V_callVp X (rest := _) (c_Jx4a65c_size_8abf5 _ _ _ (al1 (13, 0)) (13, 0) _ _ (hQ.2.2.1 _ (dl13 (by decide)))) hu0 rfl gX5_queue_Jx4a65c_size_8abf5 rfl hdv_Jx4a65c_size_8abf5 (Nat.le_of_ble_eq_true rfl) (Nat.le_of_ble_eq_true rfl) rfl (Nat.le_of_ble_eq_true rfl) dX5_queue_84 ?_
      refine V.top (y := nI (zN z 0)) (by rw [hl0]) ?_
      refine V_icmp_ge X (tgt := 119) (by decide) dX5_queue_87 (fun hc87 => ?_) (fun hc87 => ?_)
      · have hiN := lim_ge (N := zN z 0) rfl hc87 hi (by omega)
        rw [hiN] at hQa hQm hQ ⊢
        refine V_aload_n X rfl dX5_queue_119 ?_
        refine V_get X (T := TX5) (N := 5) (v := .ref _) 1 (hQ.2.1 (15, 0) (dm15)) rfl hinX5_queue_X5 (by decide) (by decide +kernel) (fun _ h9 => h9) (rfl) dX5_queue_120 ?_
        refine V_aload_n X rfl dX5_queue_123 ?_
        obtain ⟨us, hu⟩ := hQ.lat (dl13 (n := zN z) (k := 1) (by decide))
        obtain ⟨g0, hg0⟩ := hQ.2.2.2
        have hA0 := hQ.2.2.1 (13, 1) (dl13 (by decide))
        have hl1 : (lst al1 (zL z) (13, 1)).length = zN z 1 := by rw [lst, List.length_map, hQ.1.2.2.1 1 (by decide), List.length_range]
        obtain ⟨hb1, hb2, hb3⟩ := cap2_q (c := zC z (13, 1)) (n := zN z 1) hcc h100 (by rw [← hl1]; exact hA0.le)
        have hkc : 1 ≤ (if JQ s (zN z 0) = [] then 2 else 1) := by split <;> omega
        have hks : 160 ≤ (if JQ s (zN z 0) = [] then 170 else 160) := by split <;> omega
        refine V_callV (kc' := 0) (ks' := 0) X (rest := _) (c_Jx4a65c_add_9ea2d _ _ _ (al1 (13, 1)) (13, 1) (by decide) _ _ hA0 (by omega) ⟨_, hg0⟩ RX2 (CN_x (k := 1) (by decide)).1 (CN_x (k := 1) (by decide)).2 (al1 (1, zN z 1)) (fun x hx => by
          rcases List.mem_cons.mp hx with hx | hx
          · subst hx; exact ⟨_, _, _, _, _, hQa, rfl, by show (1 : Nat) ≠ 20; omega⟩
          · obtain ⟨j, hj, rfl⟩ := List.mem_map.mp hx
            exact ⟨_, _, _, _, _, hQ.2.1 (1, j) (dm1 (hQ.1.1 (13, 1) (dl13 (by decide)) j hj)), rfl, by show (1 : Nat) ≠ 20; omega⟩)) hu rfl gX5_queue_Jx4a65c_add_9ea2d rfl hdv_Jx4a65c_add_9ea2d (Nat.le_of_ble_eq_true rfl) (Nat.le_of_ble_eq_true rfl) rfl (Nat.le_of_ble_eq_true rfl) (by rw [hl1]; omega) (by rw [hl1]; omega) dX5_queue_124 (fun r9 f5 h9 => ?_)
        obtain ⟨rfl, hA, hL⟩ := h9
        rw [hl1] at hA
        obtain ⟨hR, hF4⟩ := hQ.grow (fi' := quF fi (zN z 1) s (fi 18 0) (JQ s (zN z 0))) hQa hQm (fun x hx => JQ_in hx) (fun k hk p hp => by
          unfold laQ at hp
          split at hp
          · cases hp; omega
          · exact Nat.lt_succ_of_lt (hQ.1.2.1 k hk p hp)) hA hL (by simp [fsC, quF, fu, va_up, tu]) (quF_ne _ _ _ _ _) (by omega) (by split <;> omega) (by omega)
        have hF := hQF.trans hF4
        have eO : al1 (15, 0) = tu al1 (11, zN z 1) m (15, 0) := (tu_n _ _ (fun e => by cases e)).symm
        have hN2 : zN (zQ z (laQ z (JQ s (zN z 0))) (JQ s (zN z 0)) (cap2 (zC z (13, 1)) (zN z 1)) (if JQ s (zN z 0) = [] then 0 else 10)) 1 = zN z 1 + 1 := va_up_self (zN z) 1 _
        rw [eO]
        refine (?_ : V _ _ _ _ _ _ _)
        refine V_pop X rfl dX5_queue_127 ?_
        refine V_aload_n X rfl dX5_queue_128 ?_
        refine V_get X (T := TX5) (N := 5) (v := .ref _) 1 (hR.2.1 (15, 0) (dm15)) rfl hinX5_queue_X5 (by decide) (by decide +kernel) (fun _ h9 => h9) (rfl) dX5_queue_129 ?_
        refine V_csize X hR (rest := _) (13, 1) (dl13 (by decide)) gX5_queue_Jx4a65c_size_8abf5 (Nat.le_of_ble_eq_true rfl) (Nat.le_of_ble_eq_true rfl) (Nat.le_of_ble_eq_true rfl) dX5_queue_132 ?_
        refine V.top (y := nI (zN z 1 + 1)) (by rw [hR.len (by decide), hN2]) ?_
        refine V_iconst X (v := 1) (by decide) dX5_queue_135 ?_
        refine V_isub X dX5_queue_136 ?_
        refine V.top (y := nI (zN z 1)) (nI_pred _) ?_
        exact V_iret X hr (⟨_, _, _, eO.symm.trans h15, rfl, hb1, hR, hF⟩) dX5_queue_137
      · have hlt := lim_lt (N := zN z 0) rfl hc87 hi (by omega)
        refine V_iload_n X rfl dX5_queue_90 ?_
        refine V_iload_n X rfl dX5_queue_91 ?_
        refine V_callSp X (rest := _) (c_X5_has _ _ _ _ _) gX5_queue_X5_has rfl hds_X5_has (Nat.le_of_ble_eq_true rfl) (Nat.le_of_ble_eq_true rfl) rfl (Nat.le_of_ble_eq_true rfl) dX5_queue_92 ?_
        refine V_if_eq X (tgt := 113) (by decide) dX5_queue_95 (fun hc95 => ?_) (fun hc95 => ?_)
        · refine V_iinc X (lv' := [(3, _), (0, _), (1, _), (2, _)]) (v := nI (i + 1)) rfl (nI_1 _) (by decide) rfl dX5_queue_113 ?_
          refine V_goto X (tgt := 79) (by decide) dX5_queue_116 ?_
          refine V.lvs (lv' := [(0, _), (1, _), (2, _), (3, _)]) rfl ?_
          have h0 := ih (zN z 0 - (i + 1)) (by omega) (i + 1) rfl (by omega) f1
          rw [JQ_f (bI_eq0 hc95)] at h0
          exact h0 ⟨hQa, hQm, hQ, hQF⟩
        · refine V_aload_n X rfl dX5_queue_98 ?_
          refine V_aload_n X rfl dX5_queue_99 ?_
          refine V_get X (T := TX5) (N := 5) (v := .ref _) 0 (hQ.2.1 (15, 0) (dm15)) rfl hinX5_queue_X5 (by decide) (by decide +kernel) (fun _ h9 => h9) (rfl) dX5_queue_100 ?_
          refine V_iload_n X rfl dX5_queue_103 ?_
          have hnth : (lst al1 (zL z) (13, 0))[i]? = some (al1 (0, i)) := by
            rw [lst, List.getElem?_map, hQ.1.2.2.1 0 (by decide), List.getElem?_range hlt]; rfl
          have hc0 := hQ.1.2.2.2.1 (13, 0) (dl13 (by decide))
          refine V_callVp X (rest := _) (c_Jx4a65c_get_915e3 _ _ _ (al1 (13, 0)) (13, 0) _ _ (hQ.2.2.1 _ (dl13 (by decide))) (by omega) i (al1 (0, i)) hnth) hu0 rfl gX5_queue_Jx4a65c_get_915e3 rfl hdv_Jx4a65c_get_915e3 (Nat.le_of_ble_eq_true rfl) (Nat.le_of_ble_eq_true rfl) rfl (Nat.le_of_ble_eq_true rfl) dX5_queue_104 ?_
          refine V_cast X (hQ.2.1 (0, i) (dm0 hlt)) rfl (by decide +kernel) dX5_queue_107 ?_
          have hbi : f1 (al1 (0, i)) = some ((0, i), oO 4 [.int (fi 0 i), .int (fi 1 i), .int (fi 2 i), .int (fi 3 i), .int (fi 4 i), laR al1 (laQ z (JQ s i) i)]) := hQ.2.1 (0, i) (dm0 hlt)
          obtain ⟨g0, hg0⟩ := hQ.2.2.2
          have hlm : ((JQ s i).map (fun k => al1 (0, k))).length = (JQ s i).length := List.length_map _
          have hl3 : (JQ s i).length ≤ 3 := Nat.le_trans (JQ_le s hi) hJ3
          obtain ⟨hk1, hk2, hk3⟩ := qcap (JQ s i) (by omega)
          refine V_callV (kc' := 1) (ks' := 160) X (rest := _) (c_X2_join _ _ _ (al1 (1, zN z 1)) (al1 (0, i)) m (1, zN z 1) (0, i) (11, zN z 1) (by show (1 : Nat) ≠ 99; omega) (by show (0 : Nat) ≠ 99; omega) (by show (11 : Nat) ≠ 99; omega) (by show (1 : Nat) ≠ 20; omega) (by show (0 : Nat) ≠ 20; omega) _ _ _ _ _ _ _ _ _ _ hQa hbi _ _ hQm (by split <;> omega) ⟨_, hg0⟩ (fun x hx => by
            rcases List.mem_cons.mp hx with hx | hx
            · subst hx; exact ⟨_, _, _, _, _, hbi, rfl, by show (0 : Nat) ≠ 20; omega⟩
            · obtain ⟨j, hj, rfl⟩ := List.mem_map.mp hx
              exact ⟨_, _, _, _, _, hQ.2.1 (0, j) (dm0 (Nat.lt_trans (JQ_in hj) hlt)), rfl, by show (0 : Nat) ≠ 20; omega⟩)) hQa rfl gX5_queue_X2_join rfl hdv_X2_join (Nat.le_of_ble_eq_true rfl) (Nat.le_of_ble_eq_true rfl) rfl (Nat.le_of_ble_eq_true rfl) (by rw [hlm]; omega) (by rw [hlm]; omega) dX5_queue_110 (fun r9 f9 h9 => ?_)
          obtain ⟨f2, rfl, hA2, hL2, rfl⟩ := h9
          obtain ⟨um, hum⟩ := hQm.hd
          rw [hlm, hk3] at hA2
          have ha2 := hL2 _ _ hQa (w_neT hum hQa (fun e => by cases e)) (fun e => by cases e)
          have hb2 := hL2 _ _ hbi (w_neT hum hbi (fun e => by cases e)) (fun e => by cases e)
          have hJ := RCq.join (f2 := f2) (e1 := oO 3 [.int s, .int (fi 18 0), .ref m, .int 1, .int (rcL fi (JQ s i) + rcI (fi 0 i))]) hQ hlt hQa hum hL2
          rw [show fsC al1 fi (fun j => if j = i then some (zN z 1) else laQ z (JQ s i) j) (0, i) = [.int (fi 0 i), .int (fi 1 i), .int (fi 2 i), .int (fi 3 i), .int (fi 4 i), .ref (al1 (1, zN z 1))] by simp [fsC, laR], laQ_1] at hJ
          have hab : al1 (1, zN z 1) ≠ al1 (0, i) := w_neT hb2 ha2 (fun e => by cases e)
          obtain ⟨us2, hu2⟩ := hA2.hd
          have hN : QM (kG K) al1 fi z s (fi 18 0) m (JQ s i ++ [i]) f (w_up (w_up f2 (al1 (1, zN z 1)) (1, zN z 1) (oO 3 [.int s, .int (fi 18 0), .ref m, .int 1, .int (rcL fi (JQ s i) + rcI (fi 0 i))])) (al1 (0, i)) (0, i) (oO 4 [.int (fi 0 i), .int (fi 1 i), .int (fi 2 i), .int (fi 3 i), .int (fi 4 i), .ref (al1 (1, zN z 1))])) := ⟨(w_up_ne _ _ _ hab).trans ((w_up_self _ _ _ _).trans (by rw [rcL_1])), (by
            rw [if_neg (by simp), List.map_append]
            refine AL.keep hA2 fun b x hb hx => (w_up_ne _ _ _ (w_neT hb2 hb (fun e => ?_))).trans ((w_up_ne _ _ _ (w_neT ha2 hb (fun e => ?_))).trans hb)
            · rcases hx with hx | hx | hx
              · subst hx; rw [hu2] at hb; cases hb; cases e
              · rw [← e] at hx; cases hx
              · rw [← e] at hx; cases hx
            · rcases hx with hx | hx | hx
              · subst hx; rw [hu2] at hb; cases hb; cases e
              · rw [← e] at hx; cases hx
              · rw [← e] at hx; cases hx), hJ.1, hQF.trans hJ.2⟩
          rw [← JQ_t (bI_ne0 hc95)] at hN
          refine V_iinc X (lv' := [(3, _), (0, _), (1, _), (2, _)]) (v := nI (i + 1)) rfl (nI_1 _) (by decide) rfl dX5_queue_113 ?_
          refine V_goto X (tgt := 79) (by decide) dX5_queue_116 ?_
          refine V.lvs (lv' := [(0, _), (1, _), (2, _), (3, _)]) rfl ?_
          have h0 := ih (zN z 0 - (i + 1)) (by omega) (i + 1) rfl (by omega) _ hN
          rw [if_neg (by rw [JQ_t (bI_ne0 hc95)]; simp), if_neg (by rw [JQ_t (bI_ne0 hc95)]; simp)] at h0
          exact h0
  refine V_iload_n X rfl dX5_queue_0 ?_
  refine V_if_eq X (tgt := 24) (by decide) dX5_queue_1 (fun hc1 => absurd hc1 (h1)) (fun hc1 => ?_)
  refine V_iload_n X rfl dX5_queue_4 ?_
  refine V_callSp X (rest := _) (c_J6_bitCount_0f7a4 _ _ _ _) gX5_queue_J6_bitCount_0f7a4 rfl hds_J6_bitCount_0f7a4 (Nat.le_of_ble_eq_true rfl) (Nat.le_of_ble_eq_true rfl) rfl (Nat.le_of_ble_eq_true rfl) dX5_queue_5 ?_
  refine V_iconst X (v := 3) (by decide) dX5_queue_8 ?_
  refine V_icmp_gt X (tgt := 24) (by decide) dX5_queue_9 (fun hc9 => absurd hc9 (h2)) (fun hc9 => ?_)
  refine V_iload_n X rfl dX5_queue_12 ?_
  refine V_aload_n X rfl dX5_queue_13 ?_
  refine V_get X (T := TX5) (N := 5) (v := .ref _) 0 (hR.2.1 (15, 0) (dm15)) rfl hinX5_queue_X5 (by decide) (by decide +kernel) (fun _ h9 => h9) (rfl) dX5_queue_14 ?_
  refine V_csize X hR (rest := _) (13, 0) (dl13 (by decide)) gX5_queue_Jx4a65c_size_8abf5 (Nat.le_of_ble_eq_true rfl) (Nat.le_of_ble_eq_true rfl) (Nat.le_of_ble_eq_true rfl) dX5_queue_17 ?_
  refine V.top (y := nI (zN z 0)) (by rw [hR.len (by decide)]) ?_
  refine V_ishr X dX5_queue_20 ?_
  refine V_if_eq X (tgt := 34) (by decide) dX5_queue_21 (fun hc21 => ?_) (fun hc21 => absurd hc21 (not_not_intro h3))
  refine V_aload_n X rfl dX5_queue_34 ?_
  refine V_get X (T := TX5) (N := 5) (v := .ref _) 1 (hR.2.1 (15, 0) (dm15)) rfl hinX5_queue_X5 (by decide) (by decide +kernel) (fun _ h9 => h9) (rfl) dX5_queue_35 ?_
  refine V_csize X hR (rest := _) (13, 1) (dl13 (by decide)) gX5_queue_Jx4a65c_size_8abf5 (Nat.le_of_ble_eq_true rfl) (Nat.le_of_ble_eq_true rfl) (Nat.le_of_ble_eq_true rfl) dX5_queue_38 ?_
  refine V.top (y := nI (zN z 1)) (by rw [hR.len (by decide)]) ?_
  refine V_bipush X (v := 100) (by decide) dX5_queue_41 ?_
  refine V_icmp_ge X (tgt := 54) (by decide) dX5_queue_43 (fun hc43 => absurd hc43 (Int32.not_le.mpr (nI_lt (b := 100) h100 (by decide)))) (fun hc43 => ?_)
  refine V_aload_n X rfl dX5_queue_46 ?_
  refine V_iload_n X rfl dX5_queue_47 ?_
  refine V_callVp X (rest := _) (c_X5_allMayQueue _ _ _ al fi z hR s) (hR.2.1 (15, 0) (dm15)) rfl gX5_queue_X5_allMayQueue rfl hdv_X5_allMayQueue (Nat.le_of_ble_eq_true rfl) (Nat.le_of_ble_eq_true rfl) rfl (Nat.le_of_ble_eq_true rfl) dX5_queue_48 ?_
  refine V_if_ne X (tgt := 64) (by decide) dX5_queue_51 (fun hc51 => ?_) (fun hc51 => absurd hc51 (fun q => absurd (bI_eq0 q) (by rw [h5]; decide)))
  refine V_new X (C := RX2) (T := TX2) (N := 5) (ci := 3) (index := 72) (kc' := 3) (ks' := 173) (ty := tyX2) (fs := [.int 0, .int 0, .null, .int 0, .int 0]) (1, zN z 1) rfl hinX5_queue_X2 tyX2_ok (by decide +kernel) (by decide +kernel) (by decide +kernel) qtz (by omega) (by omega) dX5_queue_64 (fun a ha => ?_)
  have hR0 := hR
  have hR : RC (kG K) al fi z (w_up f a (1, zN z 1) (oO 3 [.int 0, .int 0, .null, .int 0, .int 0])) := hR.mono fun b x hb => w_in ha hb
  refine V_dup X rfl dX5_queue_67 ?_
  refine V_iload_n X rfl dX5_queue_68 ?_
  refine V_aload_n X rfl dX5_queue_69 ?_
  refine V_get X (T := TX5) (N := 5) (v := .int _) 4 (hR.2.1 (15, 0) (dm15)) rfl hinX5_queue_X5 (by decide) (by decide +kernel) (fun _ h9 => h9) (rfl) dX5_queue_70 ?_
  refine V_callI (kc' := 2) (ks' := 170) X (rest := _) (c_X2_init _ _ _ a (1, zN z 1) (11, zN z 1) (by show (1 : Nat) ≠ 99; omega) (by show (11 : Nat) ≠ 99; omega) s (fi 18 0) (w_up_self _ _ _ _)) gX5_queue_X2_init rfl (by decide +kernel) (by decide +kernel) (by decide +kernel) rfl hds2_X2_init (Nat.le_of_ble_eq_true rfl) (Nat.le_of_ble_eq_true rfl) rfl (Nat.le_of_ble_eq_true rfl) (by omega) (by omega) dX5_queue_73 (fun r9 f1 h9 => ?_)
  obtain ⟨q, rfl, hq, rfl⟩ := h9
  have haq : a ≠ q := fun e => by rw [← e, w_up_self] at hq; cases hq
  have hq0 : f q = none := by rw [w_up_ne _ _ _ (Ne.symm haq)] at hq; exact hq
  rw [w_up_up]
  obtain ⟨g0, hg0⟩ := hR0.2.2.2
  have hmon : ∀ b x, f b = some x → (w_up (w_up (w_up f a (1, zN z 1) (oO 3 [.int s, .int (fi 18 0), .null, .int 0, .int 0])) q (11, zN z 1) (LE (kG K))) a (1, zN z 1) (oO 3 [.int s, .int (fi 18 0), .ref q, .int 1, .int 0])) b = some x := fun b x hb => (w_up_ne _ _ _ (w_neN hb ha)).trans ((w_up_ne _ _ _ (w_neN hb hq0)).trans ((w_up_ne _ _ _ (w_neN hb ha)).trans hb))
  have hQ0 : QM (kG K) (tu al (1, zN z 1) a) fi z s (fi 18 0) q (JQ s 0) f (w_up (w_up (w_up f a (1, zN z 1) (oO 3 [.int s, .int (fi 18 0), .null, .int 0, .int 0])) q (11, zN z 1) (LE (kG K))) a (1, zN z 1) (oO 3 [.int s, .int (fi 18 0), .ref q, .int 1, .int 0])) := ⟨by rw [tu_s]; exact w_up_self _ _ _ _, AL.nil ((w_up_ne _ _ _ (Ne.symm haq)).trans (w_up_self _ _ _ _)) (hmon _ _ hg0), (by rw [show laQ z (JQ s 0) = zA z from laQ_0 z]; exact hR0.toq a hmon), fun b x hb _ => hmon b x hb⟩
  clear hR
  refine V_astore_n X (lv' := [(2, _), (0, _), (1, _)]) (by decide) rfl dX5_queue_76 ?_
  refine V_iconst X (v := 0) (by decide) dX5_queue_77 ?_
  refine V_istore_n X (lv' := [(3, _), (2, _), (0, _), (1, _)]) (by decide) rfl dX5_queue_78 ?_
  refine V.lvs (lv' := [(0, _), (1, _), (2, _), (3, _)]) rfl ?_
  have h0 := L (tu al (1, zN z 1) a) (tu_n _ _ (fun e => by cases e)) q _ 0 rfl (Nat.zero_le _) _ hQ0
  rw [tu_s, show tu al (1, zN z 1) a (15, 0) = al (15, 0) from tu_n _ _ (fun e => by cases e)] at h0
  exact h0
set_option maxHeartbeats 4000000 in
set_option maxRecDepth 100000 in
theorem c_X5_queue_x (l : Launch) (hl : l.stackTraces = false) (G : GG) (f : Wo) (al : Tg → Nat) (fi : Nat → Nat → Int32) (z : CZ) (hR : RC G al fi z f) (s : Int32) (h : s = 0 ∨ 3 < bcI s ∨ ¬ s >>> (nI (zN z 0) &&& 31) = 0) : Cx l yX5_queue wsX5_queue 13 249 G [.ref (al (15, 0)), .int s] f (fun _ _ => False) (fun E f' => E = "java/lang/IllegalArgumentException" ∧ f' = f) 1 6 := by
  refine Cx.of (cc := cX5_queue) (maxL := 4) (ret := (some .int)) (by decide) rfl (Nat.le_of_ble_eq_true rfl) (lv := [(0, _), (1, _)]) rfl (by simp [Value.category]) ?_
  intro K X hL hG hr hT
  subst hL; subst hG
  refine V_iload_n X rfl dX5_queue_0 ?_
  refine V_if_eq X (tgt := 24) (by decide) dX5_queue_1 (fun hc1 => ?_) (fun hc1 => ?_)
  · exact V_throwS X hl hT "java/lang/IllegalArgumentException" "no party of one to three players" 33 64 37 ⟨rfl, rfl⟩ (by decide +kernel) (by decide +kernel) (by decide +kernel) (by decide) (by decide +kernel) xg_ia xo_ia dX5_queue_24 dX5_queue_27 dX5_queue_28 dX5_queue_30 dX5_queue_33 (Nat.le_of_ble_eq_true rfl) (Nat.le_of_ble_eq_true rfl) (by omega) (by omega)
  · refine V_iload_n X rfl dX5_queue_4 ?_
    refine V_callSp X (rest := _) (c_J6_bitCount_0f7a4 _ _ _ _) gX5_queue_J6_bitCount_0f7a4 rfl hds_J6_bitCount_0f7a4 (Nat.le_of_ble_eq_true rfl) (Nat.le_of_ble_eq_true rfl) rfl (Nat.le_of_ble_eq_true rfl) dX5_queue_5 ?_
    refine V_iconst X (v := 3) (by decide) dX5_queue_8 ?_
    refine V_icmp_gt X (tgt := 24) (by decide) dX5_queue_9 (fun hc9 => ?_) (fun hc9 => ?_)
    · exact V_throwS X hl hT "java/lang/IllegalArgumentException" "no party of one to three players" 33 64 37 ⟨rfl, rfl⟩ (by decide +kernel) (by decide +kernel) (by decide +kernel) (by decide) (by decide +kernel) xg_ia xo_ia dX5_queue_24 dX5_queue_27 dX5_queue_28 dX5_queue_30 dX5_queue_33 (Nat.le_of_ble_eq_true rfl) (Nat.le_of_ble_eq_true rfl) (by omega) (by omega)
    · refine V_iload_n X rfl dX5_queue_12 ?_
      refine V_aload_n X rfl dX5_queue_13 ?_
      refine V_get X (T := TX5) (N := 5) (v := .ref _) 0 (hR.2.1 (15, 0) (dm15)) rfl hinX5_queue_X5 (by decide) (by decide +kernel) (fun _ h9 => h9) (rfl) dX5_queue_14 ?_
      refine V_csize X hR (rest := _) (13, 0) (dl13 (by decide)) gX5_queue_Jx4a65c_size_8abf5 (Nat.le_of_ble_eq_true rfl) (Nat.le_of_ble_eq_true rfl) (Nat.le_of_ble_eq_true rfl) dX5_queue_17 ?_
      refine V.top (y := nI (zN z 0)) (by rw [hR.len (by decide)]) ?_
      refine V_ishr X dX5_queue_20 ?_
      refine V_if_eq X (tgt := 34) (by decide) dX5_queue_21 (fun hc21 => ?_) (fun hc21 => ?_)
      · exact absurd h (fun q => q.elim hc1 (fun q => q.elim hc9 (fun q => q hc21)))
      · exact V_throwS X hl hT "java/lang/IllegalArgumentException" "no party of one to three players" 33 64 37 ⟨rfl, rfl⟩ (by decide +kernel) (by decide +kernel) (by decide +kernel) (by decide) (by decide +kernel) xg_ia xo_ia dX5_queue_24 dX5_queue_27 dX5_queue_28 dX5_queue_30 dX5_queue_33 (Nat.le_of_ble_eq_true rfl) (Nat.le_of_ble_eq_true rfl) (by omega) (by omega)
set_option maxHeartbeats 4000000 in
set_option maxRecDepth 100000 in
theorem c_X5_queue_s (l : Launch) (hl : l.stackTraces = false) (G : GG) (f : Wo) (al : Tg → Nat) (fi : Nat → Nat → Int32) (z : CZ) (hR : RC G al fi z f) (s : Int32) (h1 : ¬ s = 0) (h2 : ¬ 3 < bcI s) (h3 : s >>> (nI (zN z 0) &&& 31) = 0) (h : 100 ≤ zN z 1 ∨ mqB fi (zA z) s (zN z 0) = false) : Cx l yX5_queue wsX5_queue 13 249 G [.ref (al (15, 0)), .int s] f (fun _ _ => False) (fun E f' => E = "java/lang/IllegalStateException" ∧ f' = f) 1 6 := by
  refine Cx.of (cc := cX5_queue) (maxL := 4) (ret := (some .int)) (by decide) rfl (Nat.le_of_ble_eq_true rfl) (lv := [(0, _), (1, _)]) rfl (by simp [Value.category]) ?_
  intro K X hL hG hr hT
  subst hL; subst hG
  have hN1 := hR.n1 (j := 1) (by decide)
  refine V_iload_n X rfl dX5_queue_0 ?_
  refine V_if_eq X (tgt := 24) (by decide) dX5_queue_1 (fun hc1 => absurd hc1 (h1)) (fun hc1 => ?_)
  refine V_iload_n X rfl dX5_queue_4 ?_
  refine V_callSp X (rest := _) (c_J6_bitCount_0f7a4 _ _ _ _) gX5_queue_J6_bitCount_0f7a4 rfl hds_J6_bitCount_0f7a4 (Nat.le_of_ble_eq_true rfl) (Nat.le_of_ble_eq_true rfl) rfl (Nat.le_of_ble_eq_true rfl) dX5_queue_5 ?_
  refine V_iconst X (v := 3) (by decide) dX5_queue_8 ?_
  refine V_icmp_gt X (tgt := 24) (by decide) dX5_queue_9 (fun hc9 => absurd hc9 (h2)) (fun hc9 => ?_)
  refine V_iload_n X rfl dX5_queue_12 ?_
  refine V_aload_n X rfl dX5_queue_13 ?_
  refine V_get X (T := TX5) (N := 5) (v := .ref _) 0 (hR.2.1 (15, 0) (dm15)) rfl hinX5_queue_X5 (by decide) (by decide +kernel) (fun _ h9 => h9) (rfl) dX5_queue_14 ?_
  refine V_csize X hR (rest := _) (13, 0) (dl13 (by decide)) gX5_queue_Jx4a65c_size_8abf5 (Nat.le_of_ble_eq_true rfl) (Nat.le_of_ble_eq_true rfl) (Nat.le_of_ble_eq_true rfl) dX5_queue_17 ?_
  refine V.top (y := nI (zN z 0)) (by rw [hR.len (by decide)]) ?_
  refine V_ishr X dX5_queue_20 ?_
  refine V_if_eq X (tgt := 34) (by decide) dX5_queue_21 (fun hc21 => ?_) (fun hc21 => absurd hc21 (not_not_intro h3))
  refine V_aload_n X rfl dX5_queue_34 ?_
  refine V_get X (T := TX5) (N := 5) (v := .ref _) 1 (hR.2.1 (15, 0) (dm15)) rfl hinX5_queue_X5 (by decide) (by decide +kernel) (fun _ h9 => h9) (rfl) dX5_queue_35 ?_
  refine V_csize X hR (rest := _) (13, 1) (dl13 (by decide)) gX5_queue_Jx4a65c_size_8abf5 (Nat.le_of_ble_eq_true rfl) (Nat.le_of_ble_eq_true rfl) (Nat.le_of_ble_eq_true rfl) dX5_queue_38 ?_
  refine V.top (y := nI (zN z 1)) (by rw [hR.len (by decide)]) ?_
  refine V_bipush X (v := 100) (by decide) dX5_queue_41 ?_
  refine V_icmp_ge X (tgt := 54) (by decide) dX5_queue_43 (fun hc43 => ?_) (fun hc43 => ?_)
  · exact V_throwS X hl hT "java/lang/IllegalStateException" "these players may not queue" 44 70 48 ⟨rfl, rfl⟩ (by decide +kernel) (by decide +kernel) (by decide +kernel) (by decide) (by decide +kernel) xg_is xo_is dX5_queue_54 dX5_queue_57 dX5_queue_58 dX5_queue_60 dX5_queue_63 (Nat.le_of_ble_eq_true rfl) (Nat.le_of_ble_eq_true rfl) (by omega) (by omega)
  · refine V_aload_n X rfl dX5_queue_46 ?_
    refine V_iload_n X rfl dX5_queue_47 ?_
    refine V_callVp X (rest := _) (c_X5_allMayQueue _ _ _ al fi z hR s) (hR.2.1 (15, 0) (dm15)) rfl gX5_queue_X5_allMayQueue rfl hdv_X5_allMayQueue (Nat.le_of_ble_eq_true rfl) (Nat.le_of_ble_eq_true rfl) rfl (Nat.le_of_ble_eq_true rfl) dX5_queue_48 ?_
    refine V_if_ne X (tgt := 64) (by decide) dX5_queue_51 (fun hc51 => ?_) (fun hc51 => ?_)
    · exact absurd h (fun q => q.elim (fun q => hc43 (nI_le (a := 100) q (by omega))) (fun q => hc51 (by rw [q]; rfl)))
    · exact V_throwS X hl hT "java/lang/IllegalStateException" "these players may not queue" 44 70 48 ⟨rfl, rfl⟩ (by decide +kernel) (by decide +kernel) (by decide +kernel) (by decide) (by decide +kernel) xg_is xo_is dX5_queue_54 dX5_queue_57 dX5_queue_58 dX5_queue_60 dX5_queue_63 (Nat.le_of_ble_eq_true rfl) (Nat.le_of_ble_eq_true rfl) (by omega) (by omega)
