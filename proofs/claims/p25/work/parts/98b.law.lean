/-! ===== the law: finishes, asks ===== -/
set_option maxHeartbeats 4000000 in
set_option maxRecDepth 100000 in
theorem c_L_finishes_t (l : Launch) (G : GG) (f : Wo) (al : Tg → Nat) (fi : Nat → Nat → Int32) (z : CZ) (hR : RC G al fi z f) (m : Nat) (hm : m < zN z 2) (x : Int32) (hx : x = 0 ∨ x = 1) (hs : fi 13 m = 1) : Ct l yL_finishes wsL_finishes 12 231 G [.ref (al (15, 0)), .int (nI m), .int x] f (fun r f' => r = some (.int 0) ∧ RC G al (fnF fi z m x) z f' ∧ FrC f f') 0 0 := by
  refine Ct.of (cc := cL_finishes) (maxL := 3) (ret := (some .int)) (by decide) rfl (Nat.le_of_ble_eq_true rfl) (lv := [(0, _), (1, _), (2, _)]) rfl (by simp [Value.category]) ?_
  intro K X hL hG hr hnm
  subst hL; subst hG
  refine V_aload_n X rfl dL_finishes_0 ?_
  refine V_iload_n X rfl dL_finishes_1 ?_
  refine V_iload_n X rfl dL_finishes_2 ?_
  refine V_callV (kc' := 0) (ks' := 0) X (rest := _) (c_X5_finish_t _ _ _ al fi z hR m hm x hx hs) (hR.2.1 (15, 0) dm15) rfl gL_finishes_X5_finish rfl hdv_X5_finish (Nat.le_of_ble_eq_true rfl) (Nat.le_of_ble_eq_true rfl) rfl (Nat.le_of_ble_eq_true rfl) (by omega) (by omega) dL_finishes_3 (fun r9 f9 h9 => ?_)
  obtain ⟨rfl, hR9, hF9⟩ := h9
  refine V_iconst X (v := 0) (by decide) dL_finishes_6 ?_
  exact V_iret X hr (⟨rfl, hR9, hF9⟩) dL_finishes_7
set_option maxHeartbeats 4000000 in
set_option maxRecDepth 100000 in
theorem c_L_finishes_s (l : Launch) (hl : l.stackTraces = false) (G : GG) (f : Wo) (al : Tg → Nat) (fi : Nat → Nat → Int32) (z : CZ) (hR : RC G al fi z f) (m : Nat) (hm : m < zN z 2) (x : Int32) (hx : x = 0 ∨ x = 1) (hs : fi 13 m ≠ 1) : Cx l yL_finishes wsL_finishes 12 231 G [.ref (al (15, 0)), .int (nI m), .int x] f (fun _ _ => False) (fun E f' => E = "java/lang/IllegalStateException" ∧ f' = f) 1 6 := by
  refine Cx.of (cc := cL_finishes) (maxL := 3) (ret := (some .int)) (by decide) rfl (Nat.le_of_ble_eq_true rfl) (lv := [(0, _), (1, _), (2, _)]) rfl (by simp [Value.category]) ?_
  intro K X hL hG hr hT
  subst hL; subst hG
  refine V_aload_n X rfl dL_finishes_0 ?_
  refine V_iload_n X rfl dL_finishes_1 ?_
  refine V_iload_n X rfl dL_finishes_2 ?_
  refine V_callVX (kc' := 0) (ks' := 0) X (rest := _) (c_X5_finish_s _ hl _ _ al fi z hR m hm x hx hs) (hR.2.1 (15, 0) dm15) rfl gL_finishes_X5_finish rfl hdv_X5_finish (Nat.le_of_ble_eq_true rfl) (Nat.le_of_ble_eq_true rfl) rfl (Nat.le_of_ble_eq_true rfl) (by omega) (by omega) dL_finishes_3 (fun E f1 hq => ?_) (fun r f1 hq => hq.elim)
  obtain ⟨rfl, rfl⟩ := hq
  exact VX_out X hT ⟨rfl, rfl⟩
set_option maxHeartbeats 4000000 in
set_option maxRecDepth 100000 in
theorem c_L_asks_w (l : Launch) (G : GG) (f : Wo) (al : Tg → Nat) (fi : Nat → Nat → Int32) (z : CZ) (hR : RC G al fi z f) (p : Nat) (b : Int32) (hp : p < zN z 1) (hq : fi 7 p = 1) : Ct l yL_asks wsL_asks 14 272 G [.ref (al (15, 0)), .int 5, .int (nI p), .int b] f (fun r f' => r = some (.int (wnC fi p (fi 18 0))) ∧ f' = f) 0 0 := by
  refine Ch.of (cc := cL_asks) (maxL := 5) (ret := (some .int)) (by decide) rfl (Nat.le_of_ble_eq_true rfl) (lv := [(0, _), (1, _), (2, _), (3, _)]) rfl (by simp [Value.category]) ?_
  intro K X hL hG hr htab
  subst hL; subst hG
  refine V_iload_n X rfl dL_asks_0 ?_
  refine V_if_ne X (tgt := 12) (by decide) dL_asks_1 (fun hc1 => ?_) (fun hc1 => absurd hc1 (by decide))
  refine V_iload_n X rfl dL_asks_12 ?_
  refine V_iconst X (v := 1) (by decide) dL_asks_13 ?_
  refine V_icmp_ne X (tgt := 25) (by decide) dL_asks_14 (fun hc14 => ?_) (fun hc14 => absurd hc14 (by decide))
  refine V_iload_n X rfl dL_asks_25 ?_
  refine V_iconst X (v := 2) (by decide) dL_asks_26 ?_
  refine V_icmp_ne X (tgt := 47) (by decide) dL_asks_27 (fun hc27 => ?_) (fun hc27 => absurd hc27 (by decide))
  refine V_iload_n X rfl dL_asks_47 ?_
  refine V_iconst X (v := 3) (by decide) dL_asks_48 ?_
  refine V_icmp_ne X (tgt := 61) (by decide) dL_asks_49 (fun hc49 => ?_) (fun hc49 => absurd hc49 (by decide))
  refine V_iload_n X rfl dL_asks_61 ?_
  refine V_iconst X (v := 4) (by decide) dL_asks_62 ?_
  refine V_icmp_ne X (tgt := 75) (by decide) dL_asks_63 (fun hc63 => ?_) (fun hc63 => absurd hc63 (by decide))
  refine V_aload_n X rfl dL_asks_75 ?_
  refine V_iload_n X rfl dL_asks_76 ?_
  refine V_callV (kc' := 0) (ks' := 0) X (rest := _) ((c_X5_window_t _ _ _ al fi z hR p hp hq)) (hR.2.1 (15, 0) dm15) rfl gL_asks_X5_window rfl hdv_X5_window (Nat.le_of_ble_eq_true rfl) (Nat.le_of_ble_eq_true rfl) rfl (Nat.le_of_ble_eq_true rfl) (by omega) (by omega) dL_asks_77 (fun r9 f9 h9 => ?_)
  obtain ⟨rfl, rfl⟩ := h9
  exact V_iret X hr (⟨rfl, rfl⟩) dL_asks_80
set_option maxHeartbeats 4000000 in
set_option maxRecDepth 100000 in
theorem c_L_asks_w_s (l : Launch) (hl : l.stackTraces = false) (G : GG) (f : Wo) (al : Tg → Nat) (fi : Nat → Nat → Int32) (z : CZ) (hR : RC G al fi z f) (p : Nat) (b : Int32) (hp : p < zN z 1) (hq : fi 7 p ≠ 1) : Ct l yL_asks wsL_asks 14 272 G [.ref (al (15, 0)), .int 5, .int (nI p), .int b] f (fun r f' => r = some (.int (-8)) ∧ f' = f) 1 6 := by
  refine Ch.of (cc := cL_asks) (maxL := 5) (ret := (some .int)) (by decide) rfl (Nat.le_of_ble_eq_true rfl) (lv := [(0, _), (1, _), (2, _), (3, _)]) rfl (by simp [Value.category]) ?_
  intro K X hL hG hr htab
  subst hL; subst hG
  refine V_iload_n X rfl dL_asks_0 ?_
  refine V_if_ne X (tgt := 12) (by decide) dL_asks_1 (fun hc1 => ?_) (fun hc1 => absurd hc1 (by decide))
  refine V_iload_n X rfl dL_asks_12 ?_
  refine V_iconst X (v := 1) (by decide) dL_asks_13 ?_
  refine V_icmp_ne X (tgt := 25) (by decide) dL_asks_14 (fun hc14 => ?_) (fun hc14 => absurd hc14 (by decide))
  refine V_iload_n X rfl dL_asks_25 ?_
  refine V_iconst X (v := 2) (by decide) dL_asks_26 ?_
  refine V_icmp_ne X (tgt := 47) (by decide) dL_asks_27 (fun hc27 => ?_) (fun hc27 => absurd hc27 (by decide))
  refine V_iload_n X rfl dL_asks_47 ?_
  refine V_iconst X (v := 3) (by decide) dL_asks_48 ?_
  refine V_icmp_ne X (tgt := 61) (by decide) dL_asks_49 (fun hc49 => ?_) (fun hc49 => absurd hc49 (by decide))
  refine V_iload_n X rfl dL_asks_61 ?_
  refine V_iconst X (v := 4) (by decide) dL_asks_62 ?_
  refine V_icmp_ne X (tgt := 75) (by decide) dL_asks_63 (fun hc63 => ?_) (fun hc63 => absurd hc63 (by decide))
  refine V_aload_n X rfl dL_asks_75 ?_
  refine V_iload_n X rfl dL_asks_76 ?_
  refine V_callVX (kc' := 0) (ks' := 0) X (rest := _) ((c_X5_window_s _ hl _ _ al fi z hR p hp hq)) (hR.2.1 (15, 0) dm15) rfl gL_asks_X5_window rfl hdv_X5_window (Nat.le_of_ble_eq_true rfl) (Nat.le_of_ble_eq_true rfl) rfl (Nat.le_of_ble_eq_true rfl) (by omega) (by omega) dL_asks_77 (fun E9 f9 h9 => ?_) (fun r9 f9 h9 => h9.elim)
  obtain ⟨rfl, rfl⟩ := h9
  refine V_catch X (name := "java/lang/IllegalStateException") [⟨0, 80, 81, 40⟩] ⟨0, 80, 86, 42⟩ [] (htab.trans rfl) (fun z9 hz9 => by
  cases List.mem_singleton.mp hz9
  exact ⟨by decide, "java/lang/IndexOutOfBoundsException", by decide +kernel, X.kK.2.1.2 ("java/lang/IllegalStateException", "java/lang/IndexOutOfBoundsException") List.mem_cons_self⟩) rfl (by decide) (by decide +kernel) (X.kK.2.1.1 _ List.mem_cons_self) (fun q9 => ?_)
  show V K _ 0 0 86 _ [.ref q9]
  refine V_astore X (lv' := [(4, _), (0, _), (1, _), (2, _), (3, _)]) (by decide) rfl dL_asks_86 ?_
  refine V_bipush X (v := (-8)) (by decide) dL_asks_88 ?_
  exact V_iret X hr (⟨rfl, rfl⟩) dL_asks_90
set_option maxHeartbeats 4000000 in
set_option maxRecDepth 100000 in
theorem c_L_asks_l (l : Launch) (G : GG) (f : Wo) (al : Tg → Nat) (fi : Nat → Nat → Int32) (z : CZ) (hR : RC G al fi z f) (p : Nat) (b : Int32) (hp : p < zN z 1) (hq : fi 7 p = 1) : Ct l yL_asks wsL_asks 14 272 G [.ref (al (15, 0)), .int 1, .int (nI p), .int b] f (fun r f' => r = some (.int (fi 18 0 - fi 6 p)) ∧ RC G al (fu fi 7 p 0) z f' ∧ FrC f f') 0 0 := by
  refine Ch.of (cc := cL_asks) (maxL := 5) (ret := (some .int)) (by decide) rfl (Nat.le_of_ble_eq_true rfl) (lv := [(0, _), (1, _), (2, _), (3, _)]) rfl (by simp [Value.category]) ?_
  intro K X hL hG hr htab
  subst hL; subst hG
  refine V_iload_n X rfl dL_asks_0 ?_
  refine V_if_ne X (tgt := 12) (by decide) dL_asks_1 (fun hc1 => ?_) (fun hc1 => absurd hc1 (by decide))
  refine V_iload_n X rfl dL_asks_12 ?_
  refine V_iconst X (v := 1) (by decide) dL_asks_13 ?_
  refine V_icmp_ne X (tgt := 25) (by decide) dL_asks_14 (fun hc14 => absurd hc14 (by decide)) (fun hc14 => ?_)
  refine V_aload_n X rfl dL_asks_17 ?_
  refine V_iload_n X rfl dL_asks_18 ?_
  refine V_callV (kc' := 0) (ks' := 0) X (rest := _) ((c_X5_leave_t _ _ _ al fi z hR p hp hq)) (hR.2.1 (15, 0) dm15) rfl gL_asks_X5_leave rfl hdv_X5_leave (Nat.le_of_ble_eq_true rfl) (Nat.le_of_ble_eq_true rfl) rfl (Nat.le_of_ble_eq_true rfl) (by omega) (by omega) dL_asks_19 (fun r9 f9 h9 => ?_)
  obtain ⟨rfl, hR9, hF9⟩ := h9
  refine V_goto X (tgt := 80) (by decide) dL_asks_22 ?_
  exact V_iret X hr (⟨rfl, hR9, hF9⟩) dL_asks_80
set_option maxHeartbeats 4000000 in
set_option maxRecDepth 100000 in
theorem c_L_asks_l_s (l : Launch) (hl : l.stackTraces = false) (G : GG) (f : Wo) (al : Tg → Nat) (fi : Nat → Nat → Int32) (z : CZ) (hR : RC G al fi z f) (p : Nat) (b : Int32) (hp : p < zN z 1) (hq : fi 7 p ≠ 1) : Ct l yL_asks wsL_asks 14 272 G [.ref (al (15, 0)), .int 1, .int (nI p), .int b] f (fun r f' => r = some (.int (-8)) ∧ f' = f) 1 6 := by
  refine Ch.of (cc := cL_asks) (maxL := 5) (ret := (some .int)) (by decide) rfl (Nat.le_of_ble_eq_true rfl) (lv := [(0, _), (1, _), (2, _), (3, _)]) rfl (by simp [Value.category]) ?_
  intro K X hL hG hr htab
  subst hL; subst hG
  refine V_iload_n X rfl dL_asks_0 ?_
  refine V_if_ne X (tgt := 12) (by decide) dL_asks_1 (fun hc1 => ?_) (fun hc1 => absurd hc1 (by decide))
  refine V_iload_n X rfl dL_asks_12 ?_
  refine V_iconst X (v := 1) (by decide) dL_asks_13 ?_
  refine V_icmp_ne X (tgt := 25) (by decide) dL_asks_14 (fun hc14 => absurd hc14 (by decide)) (fun hc14 => ?_)
  refine V_aload_n X rfl dL_asks_17 ?_
  refine V_iload_n X rfl dL_asks_18 ?_
  refine V_callVX (kc' := 0) (ks' := 0) X (rest := _) ((c_X5_leave_s _ hl _ _ al fi z hR p hp hq)) (hR.2.1 (15, 0) dm15) rfl gL_asks_X5_leave rfl hdv_X5_leave (Nat.le_of_ble_eq_true rfl) (Nat.le_of_ble_eq_true rfl) rfl (Nat.le_of_ble_eq_true rfl) (by omega) (by omega) dL_asks_19 (fun E9 f9 h9 => ?_) (fun r9 f9 h9 => h9.elim)
  obtain ⟨rfl, rfl⟩ := h9
  refine V_catch X (name := "java/lang/IllegalStateException") [⟨0, 80, 81, 40⟩] ⟨0, 80, 86, 42⟩ [] (htab.trans rfl) (fun z9 hz9 => by
  cases List.mem_singleton.mp hz9
  exact ⟨by decide, "java/lang/IndexOutOfBoundsException", by decide +kernel, X.kK.2.1.2 ("java/lang/IllegalStateException", "java/lang/IndexOutOfBoundsException") List.mem_cons_self⟩) rfl (by decide) (by decide +kernel) (X.kK.2.1.1 _ List.mem_cons_self) (fun q9 => ?_)
  show V K _ 0 0 86 _ [.ref q9]
  refine V_astore X (lv' := [(4, _), (0, _), (1, _), (2, _), (3, _)]) (by decide) rfl dL_asks_86 ?_
  refine V_bipush X (v := (-8)) (by decide) dL_asks_88 ?_
  exact V_iret X hr (⟨rfl, rfl⟩) dL_asks_90
set_option maxHeartbeats 4000000 in
set_option maxRecDepth 100000 in
theorem c_L_asks_a (l : Launch) (G : GG) (f : Wo) (al : Tg → Nat) (fi : Nat → Nat → Int32) (z : CZ) (hR : RC G al fi z f) (m k : Nat) (hm : m < zN z 2) (hk : k < zN z 0) (ha : awC fi m (nI k) = true) : Ct l yL_asks wsL_asks 14 272 G [.ref (al (15, 0)), .int 2, .int (nI m), .int (nI k)] f (fun r f' => r = some (.int (bI (decide (taF fi m (nI k) 13 m = 1)))) ∧ RC G al (taF fi m (nI k)) z f' ∧ FrC f f') 0 0 := by
  refine Ch.of (cc := cL_asks) (maxL := 5) (ret := (some .int)) (by decide) rfl (Nat.le_of_ble_eq_true rfl) (lv := [(0, _), (1, _), (2, _), (3, _)]) rfl (by simp [Value.category]) ?_
  intro K X hL hG hr htab
  subst hL; subst hG
  refine V_iload_n X rfl dL_asks_0 ?_
  refine V_if_ne X (tgt := 12) (by decide) dL_asks_1 (fun hc1 => ?_) (fun hc1 => absurd hc1 (by decide))
  refine V_iload_n X rfl dL_asks_12 ?_
  refine V_iconst X (v := 1) (by decide) dL_asks_13 ?_
  refine V_icmp_ne X (tgt := 25) (by decide) dL_asks_14 (fun hc14 => ?_) (fun hc14 => absurd hc14 (by decide))
  refine V_iload_n X rfl dL_asks_25 ?_
  refine V_iconst X (v := 2) (by decide) dL_asks_26 ?_
  refine V_icmp_ne X (tgt := 47) (by decide) dL_asks_27 (fun hc27 => absurd hc27 (by decide)) (fun hc27 => ?_)
  refine V_aload_n X rfl dL_asks_30 ?_
  refine V_iload_n X rfl dL_asks_31 ?_
  refine V_iload_n X rfl dL_asks_32 ?_
  refine V_callV (kc' := 0) (ks' := 0) X (rest := _) ((c_X5_accept_t _ _ _ al fi z hR m k hm hk ha)) (hR.2.1 (15, 0) dm15) rfl gL_asks_X5_accept rfl hdv_X5_accept (Nat.le_of_ble_eq_true rfl) (Nat.le_of_ble_eq_true rfl) rfl (Nat.le_of_ble_eq_true rfl) (by omega) (by omega) dL_asks_33 (fun r9 f9 h9 => ?_)
  obtain ⟨rfl, hR9, hF9⟩ := h9
  refine V_if_eq X (tgt := 43) (by decide) dL_asks_36 (fun hc36 => ?_) (fun hc36 => ?_)
  · refine V_iconst X (v := 0) (by decide) dL_asks_43 ?_
    refine V_goto X (tgt := 80) (by decide) dL_asks_44 ?_
    exact V_iret X hr (⟨bI_f (bI_eq0 hc36), hR9, hF9⟩) dL_asks_80
  · refine V_iconst X (v := 1) (by decide) dL_asks_39 ?_
    refine V_goto X (tgt := 80) (by decide) dL_asks_40 ?_
    exact V_iret X hr (⟨bI_t (bI_ne0 hc36), hR9, hF9⟩) dL_asks_80
set_option maxHeartbeats 4000000 in
set_option maxRecDepth 100000 in
theorem c_L_asks_a_s (l : Launch) (hl : l.stackTraces = false) (G : GG) (f : Wo) (al : Tg → Nat) (fi : Nat → Nat → Int32) (z : CZ) (hR : RC G al fi z f) (m k : Nat) (hm : m < zN z 2) (hk : k < zN z 0) (ha : awC fi m (nI k) = false) : Ct l yL_asks wsL_asks 14 272 G [.ref (al (15, 0)), .int 2, .int (nI m), .int (nI k)] f (fun r f' => r = some (.int (-8)) ∧ f' = f) 1 6 := by
  refine Ch.of (cc := cL_asks) (maxL := 5) (ret := (some .int)) (by decide) rfl (Nat.le_of_ble_eq_true rfl) (lv := [(0, _), (1, _), (2, _), (3, _)]) rfl (by simp [Value.category]) ?_
  intro K X hL hG hr htab
  subst hL; subst hG
  refine V_iload_n X rfl dL_asks_0 ?_
  refine V_if_ne X (tgt := 12) (by decide) dL_asks_1 (fun hc1 => ?_) (fun hc1 => absurd hc1 (by decide))
  refine V_iload_n X rfl dL_asks_12 ?_
  refine V_iconst X (v := 1) (by decide) dL_asks_13 ?_
  refine V_icmp_ne X (tgt := 25) (by decide) dL_asks_14 (fun hc14 => ?_) (fun hc14 => absurd hc14 (by decide))
  refine V_iload_n X rfl dL_asks_25 ?_
  refine V_iconst X (v := 2) (by decide) dL_asks_26 ?_
  refine V_icmp_ne X (tgt := 47) (by decide) dL_asks_27 (fun hc27 => absurd hc27 (by decide)) (fun hc27 => ?_)
  refine V_aload_n X rfl dL_asks_30 ?_
  refine V_iload_n X rfl dL_asks_31 ?_
  refine V_iload_n X rfl dL_asks_32 ?_
  refine V_callVX (kc' := 0) (ks' := 0) X (rest := _) ((c_X5_accept_s _ hl _ _ al fi z hR m k hm hk ha)) (hR.2.1 (15, 0) dm15) rfl gL_asks_X5_accept rfl hdv_X5_accept (Nat.le_of_ble_eq_true rfl) (Nat.le_of_ble_eq_true rfl) rfl (Nat.le_of_ble_eq_true rfl) (by omega) (by omega) dL_asks_33 (fun E9 f9 h9 => ?_) (fun r9 f9 h9 => h9.elim)
  obtain ⟨rfl, rfl⟩ := h9
  refine V_catch X (name := "java/lang/IllegalStateException") [⟨0, 80, 81, 40⟩] ⟨0, 80, 86, 42⟩ [] (htab.trans rfl) (fun z9 hz9 => by
  cases List.mem_singleton.mp hz9
  exact ⟨by decide, "java/lang/IndexOutOfBoundsException", by decide +kernel, X.kK.2.1.2 ("java/lang/IllegalStateException", "java/lang/IndexOutOfBoundsException") List.mem_cons_self⟩) rfl (by decide) (by decide +kernel) (X.kK.2.1.1 _ List.mem_cons_self) (fun q9 => ?_)
  show V K _ 0 0 86 _ [.ref q9]
  refine V_astore X (lv' := [(4, _), (0, _), (1, _), (2, _), (3, _)]) (by decide) rfl dL_asks_86 ?_
  refine V_bipush X (v := (-8)) (by decide) dL_asks_88 ?_
  exact V_iret X hr (⟨rfl, rfl⟩) dL_asks_90
set_option maxHeartbeats 4000000 in
set_option maxRecDepth 100000 in
theorem c_L_asks_d (l : Launch) (G : GG) (f : Wo) (al : Tg → Nat) (fi : Nat → Nat → Int32) (z : CZ) (hR : RC G al fi z f) (m k : Nat) (hm : m < zN z 2) (hk : k < zN z 0) (ha : awC fi m (nI k) = true) : Ct l yL_asks wsL_asks 14 272 G [.ref (al (15, 0)), .int 3, .int (nI m), .int (nI k)] f (fun r f' => r = some (.int (pnM (fi 3 k))) ∧ RC G al (dcF fi z m k) z f' ∧ FrC f f') 0 0 := by
  refine Ch.of (cc := cL_asks) (maxL := 5) (ret := (some .int)) (by decide) rfl (Nat.le_of_ble_eq_true rfl) (lv := [(0, _), (1, _), (2, _), (3, _)]) rfl (by simp [Value.category]) ?_
  intro K X hL hG hr htab
  subst hL; subst hG
  refine V_iload_n X rfl dL_asks_0 ?_
  refine V_if_ne X (tgt := 12) (by decide) dL_asks_1 (fun hc1 => ?_) (fun hc1 => absurd hc1 (by decide))
  refine V_iload_n X rfl dL_asks_12 ?_
  refine V_iconst X (v := 1) (by decide) dL_asks_13 ?_
  refine V_icmp_ne X (tgt := 25) (by decide) dL_asks_14 (fun hc14 => ?_) (fun hc14 => absurd hc14 (by decide))
  refine V_iload_n X rfl dL_asks_25 ?_
  refine V_iconst X (v := 2) (by decide) dL_asks_26 ?_
  refine V_icmp_ne X (tgt := 47) (by decide) dL_asks_27 (fun hc27 => ?_) (fun hc27 => absurd hc27 (by decide))
  refine V_iload_n X rfl dL_asks_47 ?_
  refine V_iconst X (v := 3) (by decide) dL_asks_48 ?_
  refine V_icmp_ne X (tgt := 61) (by decide) dL_asks_49 (fun hc49 => absurd hc49 (by decide)) (fun hc49 => ?_)
  refine V_aload_n X rfl dL_asks_52 ?_
  refine V_iload_n X rfl dL_asks_53 ?_
  refine V_iload_n X rfl dL_asks_54 ?_
  refine V_callV (kc' := 0) (ks' := 0) X (rest := _) ((c_X5_decline_t _ _ _ al fi z hR m k hm hk ha)) (hR.2.1 (15, 0) dm15) rfl gL_asks_X5_decline rfl hdv_X5_decline (Nat.le_of_ble_eq_true rfl) (Nat.le_of_ble_eq_true rfl) rfl (Nat.le_of_ble_eq_true rfl) (by omega) (by omega) dL_asks_55 (fun r9 f9 h9 => ?_)
  obtain ⟨rfl, hR9, hF9⟩ := h9
  refine V_goto X (tgt := 80) (by decide) dL_asks_58 ?_
  exact V_iret X hr (⟨rfl, hR9, hF9⟩) dL_asks_80
set_option maxHeartbeats 4000000 in
set_option maxRecDepth 100000 in
theorem c_L_asks_d_s (l : Launch) (hl : l.stackTraces = false) (G : GG) (f : Wo) (al : Tg → Nat) (fi : Nat → Nat → Int32) (z : CZ) (hR : RC G al fi z f) (m k : Nat) (hm : m < zN z 2) (hk : k < zN z 0) (ha : awC fi m (nI k) = false) : Ct l yL_asks wsL_asks 14 272 G [.ref (al (15, 0)), .int 3, .int (nI m), .int (nI k)] f (fun r f' => r = some (.int (-8)) ∧ f' = f) 1 6 := by
  refine Ch.of (cc := cL_asks) (maxL := 5) (ret := (some .int)) (by decide) rfl (Nat.le_of_ble_eq_true rfl) (lv := [(0, _), (1, _), (2, _), (3, _)]) rfl (by simp [Value.category]) ?_
  intro K X hL hG hr htab
  subst hL; subst hG
  refine V_iload_n X rfl dL_asks_0 ?_
  refine V_if_ne X (tgt := 12) (by decide) dL_asks_1 (fun hc1 => ?_) (fun hc1 => absurd hc1 (by decide))
  refine V_iload_n X rfl dL_asks_12 ?_
  refine V_iconst X (v := 1) (by decide) dL_asks_13 ?_
  refine V_icmp_ne X (tgt := 25) (by decide) dL_asks_14 (fun hc14 => ?_) (fun hc14 => absurd hc14 (by decide))
  refine V_iload_n X rfl dL_asks_25 ?_
  refine V_iconst X (v := 2) (by decide) dL_asks_26 ?_
  refine V_icmp_ne X (tgt := 47) (by decide) dL_asks_27 (fun hc27 => ?_) (fun hc27 => absurd hc27 (by decide))
  refine V_iload_n X rfl dL_asks_47 ?_
  refine V_iconst X (v := 3) (by decide) dL_asks_48 ?_
  refine V_icmp_ne X (tgt := 61) (by decide) dL_asks_49 (fun hc49 => absurd hc49 (by decide)) (fun hc49 => ?_)
  refine V_aload_n X rfl dL_asks_52 ?_
  refine V_iload_n X rfl dL_asks_53 ?_
  refine V_iload_n X rfl dL_asks_54 ?_
  refine V_callVX (kc' := 0) (ks' := 0) X (rest := _) ((c_X5_decline_s _ hl _ _ al fi z hR m k hm hk ha)) (hR.2.1 (15, 0) dm15) rfl gL_asks_X5_decline rfl hdv_X5_decline (Nat.le_of_ble_eq_true rfl) (Nat.le_of_ble_eq_true rfl) rfl (Nat.le_of_ble_eq_true rfl) (by omega) (by omega) dL_asks_55 (fun E9 f9 h9 => ?_) (fun r9 f9 h9 => h9.elim)
  obtain ⟨rfl, rfl⟩ := h9
  refine V_catch X (name := "java/lang/IllegalStateException") [⟨0, 80, 81, 40⟩] ⟨0, 80, 86, 42⟩ [] (htab.trans rfl) (fun z9 hz9 => by
  cases List.mem_singleton.mp hz9
  exact ⟨by decide, "java/lang/IndexOutOfBoundsException", by decide +kernel, X.kK.2.1.2 ("java/lang/IllegalStateException", "java/lang/IndexOutOfBoundsException") List.mem_cons_self⟩) rfl (by decide) (by decide +kernel) (X.kK.2.1.1 _ List.mem_cons_self) (fun q9 => ?_)
  show V K _ 0 0 86 _ [.ref q9]
  refine V_astore X (lv' := [(4, _), (0, _), (1, _), (2, _), (3, _)]) (by decide) rfl dL_asks_86 ?_
  refine V_bipush X (v := (-8)) (by decide) dL_asks_88 ?_
  exact V_iret X hr (⟨rfl, rfl⟩) dL_asks_90
set_option maxHeartbeats 4000000 in
set_option maxRecDepth 100000 in
theorem c_L_asks_f (l : Launch) (G : GG) (f : Wo) (al : Tg → Nat) (fi : Nat → Nat → Int32) (z : CZ) (hR : RC G al fi z f) (m : Nat) (hm : m < zN z 2) (x : Int32) (hx : x = 0 ∨ x = 1) (hs : fi 13 m = 1) : Ct l yL_asks wsL_asks 14 272 G [.ref (al (15, 0)), .int 4, .int (nI m), .int x] f (fun r f' => r = some (.int 0) ∧ RC G al (fnF fi z m x) z f' ∧ FrC f f') 0 0 := by
  refine Ch.of (cc := cL_asks) (maxL := 5) (ret := (some .int)) (by decide) rfl (Nat.le_of_ble_eq_true rfl) (lv := [(0, _), (1, _), (2, _), (3, _)]) rfl (by simp [Value.category]) ?_
  intro K X hL hG hr htab
  subst hL; subst hG
  refine V_iload_n X rfl dL_asks_0 ?_
  refine V_if_ne X (tgt := 12) (by decide) dL_asks_1 (fun hc1 => ?_) (fun hc1 => absurd hc1 (by decide))
  refine V_iload_n X rfl dL_asks_12 ?_
  refine V_iconst X (v := 1) (by decide) dL_asks_13 ?_
  refine V_icmp_ne X (tgt := 25) (by decide) dL_asks_14 (fun hc14 => ?_) (fun hc14 => absurd hc14 (by decide))
  refine V_iload_n X rfl dL_asks_25 ?_
  refine V_iconst X (v := 2) (by decide) dL_asks_26 ?_
  refine V_icmp_ne X (tgt := 47) (by decide) dL_asks_27 (fun hc27 => ?_) (fun hc27 => absurd hc27 (by decide))
  refine V_iload_n X rfl dL_asks_47 ?_
  refine V_iconst X (v := 3) (by decide) dL_asks_48 ?_
  refine V_icmp_ne X (tgt := 61) (by decide) dL_asks_49 (fun hc49 => ?_) (fun hc49 => absurd hc49 (by decide))
  refine V_iload_n X rfl dL_asks_61 ?_
  refine V_iconst X (v := 4) (by decide) dL_asks_62 ?_
  refine V_icmp_ne X (tgt := 75) (by decide) dL_asks_63 (fun hc63 => absurd hc63 (by decide)) (fun hc63 => ?_)
  refine V_aload_n X rfl dL_asks_66 ?_
  refine V_iload_n X rfl dL_asks_67 ?_
  refine V_iload_n X rfl dL_asks_68 ?_
  refine V_callS (kc' := 0) (ks' := 0) X (rest := _) ((c_L_finishes_t _ _ _ al fi z hR m hm x hx hs)) gL_asks_L_finishes rfl hds_L_finishes (Nat.le_of_ble_eq_true rfl) (Nat.le_of_ble_eq_true rfl) rfl (Nat.le_of_ble_eq_true rfl) (by omega) (by omega) dL_asks_69 (fun r9 f9 h9 => ?_)
  obtain ⟨rfl, hR9, hF9⟩ := h9
  refine V_goto X (tgt := 80) (by decide) dL_asks_72 ?_
  exact V_iret X hr (⟨rfl, hR9, hF9⟩) dL_asks_80
set_option maxHeartbeats 4000000 in
set_option maxRecDepth 100000 in
theorem c_L_asks_f_s (l : Launch) (hl : l.stackTraces = false) (G : GG) (f : Wo) (al : Tg → Nat) (fi : Nat → Nat → Int32) (z : CZ) (hR : RC G al fi z f) (m : Nat) (hm : m < zN z 2) (x : Int32) (hx : x = 0 ∨ x = 1) (hs : fi 13 m ≠ 1) : Ct l yL_asks wsL_asks 14 272 G [.ref (al (15, 0)), .int 4, .int (nI m), .int x] f (fun r f' => r = some (.int (-8)) ∧ f' = f) 1 6 := by
  refine Ch.of (cc := cL_asks) (maxL := 5) (ret := (some .int)) (by decide) rfl (Nat.le_of_ble_eq_true rfl) (lv := [(0, _), (1, _), (2, _), (3, _)]) rfl (by simp [Value.category]) ?_
  intro K X hL hG hr htab
  subst hL; subst hG
  refine V_iload_n X rfl dL_asks_0 ?_
  refine V_if_ne X (tgt := 12) (by decide) dL_asks_1 (fun hc1 => ?_) (fun hc1 => absurd hc1 (by decide))
  refine V_iload_n X rfl dL_asks_12 ?_
  refine V_iconst X (v := 1) (by decide) dL_asks_13 ?_
  refine V_icmp_ne X (tgt := 25) (by decide) dL_asks_14 (fun hc14 => ?_) (fun hc14 => absurd hc14 (by decide))
  refine V_iload_n X rfl dL_asks_25 ?_
  refine V_iconst X (v := 2) (by decide) dL_asks_26 ?_
  refine V_icmp_ne X (tgt := 47) (by decide) dL_asks_27 (fun hc27 => ?_) (fun hc27 => absurd hc27 (by decide))
  refine V_iload_n X rfl dL_asks_47 ?_
  refine V_iconst X (v := 3) (by decide) dL_asks_48 ?_
  refine V_icmp_ne X (tgt := 61) (by decide) dL_asks_49 (fun hc49 => ?_) (fun hc49 => absurd hc49 (by decide))
  refine V_iload_n X rfl dL_asks_61 ?_
  refine V_iconst X (v := 4) (by decide) dL_asks_62 ?_
  refine V_icmp_ne X (tgt := 75) (by decide) dL_asks_63 (fun hc63 => absurd hc63 (by decide)) (fun hc63 => ?_)
  refine V_aload_n X rfl dL_asks_66 ?_
  refine V_iload_n X rfl dL_asks_67 ?_
  refine V_iload_n X rfl dL_asks_68 ?_
  refine V_callSX (kc' := 0) (ks' := 0) X (rest := _) ((c_L_finishes_s _ hl _ _ al fi z hR m hm x hx hs)) gL_asks_L_finishes rfl hds_L_finishes (Nat.le_of_ble_eq_true rfl) (Nat.le_of_ble_eq_true rfl) rfl (Nat.le_of_ble_eq_true rfl) (by omega) (by omega) dL_asks_69 (fun E9 f9 h9 => ?_) (fun r9 f9 h9 => h9.elim)
  obtain ⟨rfl, rfl⟩ := h9
  refine V_catch X (name := "java/lang/IllegalStateException") [⟨0, 80, 81, 40⟩] ⟨0, 80, 86, 42⟩ [] (htab.trans rfl) (fun z9 hz9 => by
  cases List.mem_singleton.mp hz9
  exact ⟨by decide, "java/lang/IndexOutOfBoundsException", by decide +kernel, X.kK.2.1.2 ("java/lang/IllegalStateException", "java/lang/IndexOutOfBoundsException") List.mem_cons_self⟩) rfl (by decide) (by decide +kernel) (X.kK.2.1.1 _ List.mem_cons_self) (fun q9 => ?_)
  show V K _ 0 0 86 _ [.ref q9]
  refine V_astore X (lv' := [(4, _), (0, _), (1, _), (2, _), (3, _)]) (by decide) rfl dL_asks_86 ?_
  refine V_bipush X (v := (-8)) (by decide) dL_asks_88 ?_
  exact V_iret X hr (⟨rfl, rfl⟩) dL_asks_90
set_option maxHeartbeats 4000000 in
set_option maxRecDepth 100000 in
theorem c_L_asks_q (l : Launch) (G : GG) (f : Wo) (al : Tg → Nat) (fi : Nat → Nat → Int32) (z : CZ) (hR : RC G al fi z f) (s b : Int32) (h1 : ¬ s = 0) (h2 : ¬ 3 < bcI s) (h3 : s >>> (nI (zN z 0) &&& 31) = 0) (h100 : zN z 1 < 100) (h5 : mqB fi (zA z) s (zN z 0) = true) (hcc : zC z (13, 1) ≤ 160) (hJ3 : (JQ s (zN z 0)).length ≤ 3) : Ct l yL_asks wsL_asks 14 272 G [.ref (al (15, 0)), .int 0, .int s, .int b] f (fun r f' => ∃ (al' : Tg → Nat) (cap cm : Nat), al' (15, 0) = al (15, 0) ∧ r = some (.int (nI (zN z 1))) ∧ cap ≤ 160 ∧ RC G al' (quF fi (zN z 1) s (fi 18 0) (JQ s (zN z 0))) (zQ z (laQ z (JQ s (zN z 0))) (JQ s (zN z 0)) cap cm) f' ∧ FrC f f') 4 178 := by
  refine Ch.of (cc := cL_asks) (maxL := 5) (ret := (some .int)) (by decide) rfl (Nat.le_of_ble_eq_true rfl) (lv := [(0, _), (1, _), (2, _), (3, _)]) rfl (by simp [Value.category]) ?_
  intro K X hL hG hr htab
  subst hL; subst hG
  refine V_iload_n X rfl dL_asks_0 ?_
  refine V_if_ne X (tgt := 12) (by decide) dL_asks_1 (fun hc1 => absurd hc1 (by decide)) (fun hc1 => ?_)
  refine V_aload_n X rfl dL_asks_4 ?_
  refine V_iload_n X rfl dL_asks_5 ?_
  refine V_callV (kc' := 0) (ks' := 0) X (rest := _) ((c_X5_queue_t _ _ _ al fi z hR s h1 h2 h3 h100 h5 hcc hJ3)) (hR.2.1 (15, 0) dm15) rfl gL_asks_X5_queue rfl hdv_X5_queue (Nat.le_of_ble_eq_true rfl) (Nat.le_of_ble_eq_true rfl) rfl (Nat.le_of_ble_eq_true rfl) (by omega) (by omega) dL_asks_6 (fun r9 f9 h9 => ?_)
  obtain ⟨al2, cap, cm, e1, rfl, e2, hR9, hF9⟩ := h9
  refine V_goto X (tgt := 80) (by decide) dL_asks_9 ?_
  exact V_iret X hr (⟨al2, cap, cm, e1, rfl, e2, hR9, hF9⟩) dL_asks_80
set_option maxHeartbeats 4000000 in
set_option maxRecDepth 100000 in
theorem c_L_asks_q_s (l : Launch) (hl : l.stackTraces = false) (G : GG) (f : Wo) (al : Tg → Nat) (fi : Nat → Nat → Int32) (z : CZ) (hR : RC G al fi z f) (s b : Int32) (h1 : ¬ s = 0) (h2 : ¬ 3 < bcI s) (h3 : s >>> (nI (zN z 0) &&& 31) = 0) (h : 100 ≤ zN z 1 ∨ mqB fi (zA z) s (zN z 0) = false) : Ct l yL_asks wsL_asks 14 272 G [.ref (al (15, 0)), .int 0, .int s, .int b] f (fun r f' => r = some (.int (-8)) ∧ f' = f) 1 6 := by
  refine Ch.of (cc := cL_asks) (maxL := 5) (ret := (some .int)) (by decide) rfl (Nat.le_of_ble_eq_true rfl) (lv := [(0, _), (1, _), (2, _), (3, _)]) rfl (by simp [Value.category]) ?_
  intro K X hL hG hr htab
  subst hL; subst hG
  refine V_iload_n X rfl dL_asks_0 ?_
  refine V_if_ne X (tgt := 12) (by decide) dL_asks_1 (fun hc1 => absurd hc1 (by decide)) (fun hc1 => ?_)
  refine V_aload_n X rfl dL_asks_4 ?_
  refine V_iload_n X rfl dL_asks_5 ?_
  refine V_callVX (kc' := 0) (ks' := 0) X (rest := _) ((c_X5_queue_s _ hl _ _ al fi z hR s h1 h2 h3 h)) (hR.2.1 (15, 0) dm15) rfl gL_asks_X5_queue rfl hdv_X5_queue (Nat.le_of_ble_eq_true rfl) (Nat.le_of_ble_eq_true rfl) rfl (Nat.le_of_ble_eq_true rfl) (by omega) (by omega) dL_asks_6 (fun E9 f9 h9 => ?_) (fun r9 f9 h9 => h9.elim)
  obtain ⟨rfl, rfl⟩ := h9
  refine V_catch X (name := "java/lang/IllegalStateException") [⟨0, 80, 81, 40⟩] ⟨0, 80, 86, 42⟩ [] (htab.trans rfl) (fun z9 hz9 => by
  cases List.mem_singleton.mp hz9
  exact ⟨by decide, "java/lang/IndexOutOfBoundsException", by decide +kernel, X.kK.2.1.2 ("java/lang/IllegalStateException", "java/lang/IndexOutOfBoundsException") List.mem_cons_self⟩) rfl (by decide) (by decide +kernel) (X.kK.2.1.1 _ List.mem_cons_self) (fun q9 => ?_)
  show V K _ 0 0 86 _ [.ref q9]
  refine V_astore X (lv' := [(4, _), (0, _), (1, _), (2, _), (3, _)]) (by decide) rfl dL_asks_86 ?_
  refine V_bipush X (v := (-8)) (by decide) dL_asks_88 ?_
  exact V_iret X hr (⟨rfl, rfl⟩) dL_asks_90
