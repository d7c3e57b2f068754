/-- those of a match who have not accepted -/
def lateI (tm ac : Nat → Int32) (m : Nat) : Int32 := allI tm m &&& (ac m ^^^ (-1))
set_option maxHeartbeats 4000000 in
set_option maxRecDepth 100000 in
theorem c_X6_faultOf_1a (l : Launch) (G : GG) (f : Wo) (am : Nat → Nat) (sc : Nat → Int32) (ar : Nat → Nat → Int32) (hR : RM G am sc ar f) (m p : Int32) (hm : inI m 0 (sc 2 - 1) = false) : Cp l yX6_faultOf wsX6_faultOf 3 87 G [.ref (am 0), .int m, .int p] f (.int 1) := by
  refine Ct.of (cc := cX6_faultOf) (maxL := 3) (ret := (some .int)) (by decide) rfl (Nat.le_of_ble_eq_true rfl) (lv := [(0, _), (1, _), (2, _)]) rfl (by simp [Value.category]) ?_
  intro K X hL hG hr hnm
  subst hL; subst hG
  refine V_aload_n X rfl dX6_faultOf_0 ?_
  refine V_iload_n X rfl dX6_faultOf_1 ?_
  refine V_callVp X (rest := _) (c_X6_isMatch _ _ _ am sc ar hR _) hR.1 rfl gX6_faultOf_X6_isMatch rfl hdv_X6_isMatch (Nat.le_of_ble_eq_true rfl) (Nat.le_of_ble_eq_true rfl) rfl (Nat.le_of_ble_eq_true rfl) dX6_faultOf_2 ?_
  refine V.top (y := 0) (by rw [hm]; rfl) ?_
  refine V_if_eq X (tgt := 16) (by decide) dX6_faultOf_5 (fun hc5 => ?_) (fun hc5 => absurd hc5 (by decide))
  refine V_iconst X (v := 1) (by decide) dX6_faultOf_16 ?_
  exact V_iret X hr (⟨rfl, rfl⟩) dX6_faultOf_17
set_option maxHeartbeats 4000000 in
set_option maxRecDepth 100000 in
theorem c_X6_faultOf_1b (l : Launch) (G : GG) (f : Wo) (am : Nat → Nat) (sc : Nat → Int32) (ar : Nat → Nat → Int32) (hR : RM G am sc ar f) (m p : Int32) (hm : inI m 0 (sc 2 - 1) = true) (hp : inI p 0 (sc 0 - 1) = false) : Cp l yX6_faultOf wsX6_faultOf 3 87 G [.ref (am 0), .int m, .int p] f (.int 1) := by
  refine Ct.of (cc := cX6_faultOf) (maxL := 3) (ret := (some .int)) (by decide) rfl (Nat.le_of_ble_eq_true rfl) (lv := [(0, _), (1, _), (2, _)]) rfl (by simp [Value.category]) ?_
  intro K X hL hG hr hnm
  subst hL; subst hG
  refine V_aload_n X rfl dX6_faultOf_0 ?_
  refine V_iload_n X rfl dX6_faultOf_1 ?_
  refine V_callVp X (rest := _) (c_X6_isMatch _ _ _ am sc ar hR _) hR.1 rfl gX6_faultOf_X6_isMatch rfl hdv_X6_isMatch (Nat.le_of_ble_eq_true rfl) (Nat.le_of_ble_eq_true rfl) rfl (Nat.le_of_ble_eq_true rfl) dX6_faultOf_2 ?_
  refine V.top (y := 1) (by rw [hm]; rfl) ?_
  refine V_if_eq X (tgt := 16) (by decide) dX6_faultOf_5 (fun hc5 => absurd hc5 (by decide)) (fun hc5 => ?_)
  refine V_aload_n X rfl dX6_faultOf_8 ?_
  refine V_iload_n X rfl dX6_faultOf_9 ?_
  refine V_callVp X (rest := _) (c_X6_isPlayer _ _ _ am sc ar hR _) hR.1 rfl gX6_faultOf_X6_isPlayer rfl hdv_X6_isPlayer (Nat.le_of_ble_eq_true rfl) (Nat.le_of_ble_eq_true rfl) rfl (Nat.le_of_ble_eq_true rfl) dX6_faultOf_10 ?_
  refine V.top (y := 0) (by rw [hp]; rfl) ?_
  refine V_if_ne X (tgt := 18) (by decide) dX6_faultOf_13 (fun hc13 => absurd hc13 (by decide)) (fun hc13 => ?_)
  refine V_iconst X (v := 1) (by decide) dX6_faultOf_16 ?_
  exact V_iret X hr (⟨rfl, rfl⟩) dX6_faultOf_17
theorem hinX6_faultOf_X6 : ∀ w ∈ wsX60, w ∈ wsX6_faultOf := by decide +kernel
set_option maxHeartbeats 4000000 in
set_option maxRecDepth 100000 in
theorem c_X6_faultOf_2a (l : Launch) (G : GG) (f : Wo) (am : Nat → Nat) (sc : Nat → Int32) (ar : Nat → Nat → Int32) (hR : RM G am sc ar f) (k : Nat) (hk : k < 600) (p : Int32) (hm : inI (nI k) 0 (sc 2 - 1) = true) (hp : inI p 0 (sc 0 - 1) = true) (hs : ¬ ar 15 k = 0) : Cp l yX6_faultOf wsX6_faultOf 3 87 G [.ref (am 0), .int (nI k), .int p] f (.int 2) := by
  refine Ct.of (cc := cX6_faultOf) (maxL := 3) (ret := (some .int)) (by decide) rfl (Nat.le_of_ble_eq_true rfl) (lv := [(0, _), (1, _), (2, _)]) rfl (by simp [Value.category]) ?_
  intro K X hL hG hr hnm
  subst hL; subst hG
  refine V_aload_n X rfl dX6_faultOf_0 ?_
  refine V_iload_n X rfl dX6_faultOf_1 ?_
  refine V_callVp X (rest := _) (c_X6_isMatch _ _ _ am sc ar hR _) hR.1 rfl gX6_faultOf_X6_isMatch rfl hdv_X6_isMatch (Nat.le_of_ble_eq_true rfl) (Nat.le_of_ble_eq_true rfl) rfl (Nat.le_of_ble_eq_true rfl) dX6_faultOf_2 ?_
  refine V.top (y := 1) (by rw [hm]; rfl) ?_
  refine V_if_eq X (tgt := 16) (by decide) dX6_faultOf_5 (fun hc5 => absurd hc5 (by decide)) (fun hc5 => ?_)
  refine V_aload_n X rfl dX6_faultOf_8 ?_
  refine V_iload_n X rfl dX6_faultOf_9 ?_
  refine V_callVp X (rest := _) (c_X6_isPlayer _ _ _ am sc ar hR _) hR.1 rfl gX6_faultOf_X6_isPlayer rfl hdv_X6_isPlayer (Nat.le_of_ble_eq_true rfl) (Nat.le_of_ble_eq_true rfl) rfl (Nat.le_of_ble_eq_true rfl) dX6_faultOf_10 ?_
  refine V.top (y := 1) (by rw [hp]; rfl) ?_
  refine V_if_ne X (tgt := 18) (by decide) dX6_faultOf_13 (fun hc13 => ?_) (fun hc13 => absurd hc13 (by decide))
  refine V_aload_n X rfl dX6_faultOf_18 ?_
  refine V_mget X hR (v := .ref (am 15)) 17 (by decide) hinX6_faultOf_X6 (rfl) (by decide +kernel) rfl dX6_faultOf_19 ?_
  refine V_iload_n X rfl dX6_faultOf_22 ?_
  refine V_mald X hR 15 (k) 600 (by decide) rfl (by omega) (by decide) rfl dX6_faultOf_23 ?_
  refine V_if_ne X (tgt := 52) (by decide) dX6_faultOf_24 (fun hc24 => ?_) (fun hc24 => absurd hc24 (hs))
  refine V_iconst X (v := 2) (by decide) dX6_faultOf_52 ?_
  exact V_iret X hr (⟨rfl, rfl⟩) dX6_faultOf_53
set_option maxHeartbeats 4000000 in
set_option maxRecDepth 100000 in
theorem c_X6_faultOf_2b (l : Launch) (G : GG) (f : Wo) (am : Nat → Nat) (sc : Nat → Int32) (ar : Nat → Nat → Int32) (hR : RM G am sc ar f) (k : Nat) (hk : k < 600) (p : Int32) (hm : inI (nI k) 0 (sc 2 - 1) = true) (hp : inI p 0 (sc 0 - 1) = true) (hs : ar 15 k = 0) (hh : hsI (lateI (ar 11) (ar 14) k) p = false) : Cp l yX6_faultOf wsX6_faultOf 3 87 G [.ref (am 0), .int (nI k), .int p] f (.int 2) := by
  refine Ct.of (cc := cX6_faultOf) (maxL := 3) (ret := (some .int)) (by decide) rfl (Nat.le_of_ble_eq_true rfl) (lv := [(0, _), (1, _), (2, _)]) rfl (by simp [Value.category]) ?_
  intro K X hL hG hr hnm
  subst hL; subst hG
  refine V_aload_n X rfl dX6_faultOf_0 ?_
  refine V_iload_n X rfl dX6_faultOf_1 ?_
  refine V_callVp X (rest := _) (c_X6_isMatch _ _ _ am sc ar hR _) hR.1 rfl gX6_faultOf_X6_isMatch rfl hdv_X6_isMatch (Nat.le_of_ble_eq_true rfl) (Nat.le_of_ble_eq_true rfl) rfl (Nat.le_of_ble_eq_true rfl) dX6_faultOf_2 ?_
  refine V.top (y := 1) (by rw [hm]; rfl) ?_
  refine V_if_eq X (tgt := 16) (by decide) dX6_faultOf_5 (fun hc5 => absurd hc5 (by decide)) (fun hc5 => ?_)
  refine V_aload_n X rfl dX6_faultOf_8 ?_
  refine V_iload_n X rfl dX6_faultOf_9 ?_
  refine V_callVp X (rest := _) (c_X6_isPlayer _ _ _ am sc ar hR _) hR.1 rfl gX6_faultOf_X6_isPlayer rfl hdv_X6_isPlayer (Nat.le_of_ble_eq_true rfl) (Nat.le_of_ble_eq_true rfl) rfl (Nat.le_of_ble_eq_true rfl) dX6_faultOf_10 ?_
  refine V.top (y := 1) (by rw [hp]; rfl) ?_
  refine V_if_ne X (tgt := 18) (by decide) dX6_faultOf_13 (fun hc13 => ?_) (fun hc13 => absurd hc13 (by decide))
  refine V_aload_n X rfl dX6_faultOf_18 ?_
  refine V_mget X hR (v := .ref (am 15)) 17 (by decide) hinX6_faultOf_X6 (rfl) (by decide +kernel) rfl dX6_faultOf_19 ?_
  refine V_iload_n X rfl dX6_faultOf_22 ?_
  refine V_mald X hR 15 (k) 600 (by decide) rfl (by omega) (by decide) rfl dX6_faultOf_23 ?_
  refine V_if_ne X (tgt := 52) (by decide) dX6_faultOf_24 (fun hc24 => absurd hc24 (not_not_intro hs)) (fun hc24 => ?_)
  refine V_aload_n X rfl dX6_faultOf_27 ?_
  refine V_iload_n X rfl dX6_faultOf_28 ?_
  refine V_callVp X (rest := _) (c_X6_allOf _ _ _ am _ _ hR k (by omega)) hR.1 rfl gX6_faultOf_X6_allOf rfl hdv_X6_allOf (Nat.le_of_ble_eq_true rfl) (Nat.le_of_ble_eq_true rfl) rfl (Nat.le_of_ble_eq_true rfl) dX6_faultOf_29 ?_
  refine V_aload_n X rfl dX6_faultOf_32 ?_
  refine V_mget X hR (v := .ref (am 14)) 16 (by decide) hinX6_faultOf_X6 (rfl) (by decide +kernel) rfl dX6_faultOf_33 ?_
  refine V_iload_n X rfl dX6_faultOf_36 ?_
  refine V_mald X hR 14 (k) 600 (by decide) rfl (by omega) (by decide) rfl dX6_faultOf_37 ?_
  refine V_iconst X (v := (-1)) (by decide) dX6_faultOf_38 ?_
  refine V_ixor X dX6_faultOf_39 ?_
  refine V_iand X dX6_faultOf_40 ?_
  refine V_iload_n X rfl dX6_faultOf_41 ?_
  refine V_callSp X (rest := _) (c_X6_has _ _ _ _ _) gX6_faultOf_X6_has rfl hds_X6_has (Nat.le_of_ble_eq_true rfl) (Nat.le_of_ble_eq_true rfl) rfl (Nat.le_of_ble_eq_true rfl) dX6_faultOf_42 ?_
  refine V.top (y := 0) (by have h9 := hh; unfold lateI at h9; rw [h9]; rfl) ?_
  refine V_if_eq X (tgt := 52) (by decide) dX6_faultOf_45 (fun hc45 => ?_) (fun hc45 => absurd hc45 (by decide))
  refine V_iconst X (v := 2) (by decide) dX6_faultOf_52 ?_
  exact V_iret X hr (⟨rfl, rfl⟩) dX6_faultOf_53
set_option maxHeartbeats 4000000 in
set_option maxRecDepth 100000 in
theorem c_X6_faultOf_0 (l : Launch) (G : GG) (f : Wo) (am : Nat → Nat) (sc : Nat → Int32) (ar : Nat → Nat → Int32) (hR : RM G am sc ar f) (k : Nat) (hk : k < 600) (p : Int32) (hm : inI (nI k) 0 (sc 2 - 1) = true) (hp : inI p 0 (sc 0 - 1) = true) (hs : ar 15 k = 0) (hh : hsI (lateI (ar 11) (ar 14) k) p = true) : Cp l yX6_faultOf wsX6_faultOf 3 87 G [.ref (am 0), .int (nI k), .int p] f (.int 0) := by
  refine Ct.of (cc := cX6_faultOf) (maxL := 3) (ret := (some .int)) (by decide) rfl (Nat.le_of_ble_eq_true rfl) (lv := [(0, _), (1, _), (2, _)]) rfl (by simp [Value.category]) ?_
  intro K X hL hG hr hnm
  subst hL; subst hG
  refine V_aload_n X rfl dX6_faultOf_0 ?_
  refine V_iload_n X rfl dX6_faultOf_1 ?_
  refine V_callVp X (rest := _) (c_X6_isMatch _ _ _ am sc ar hR _) hR.1 rfl gX6_faultOf_X6_isMatch rfl hdv_X6_isMatch (Nat.le_of_ble_eq_true rfl) (Nat.le_of_ble_eq_true rfl) rfl (Nat.le_of_ble_eq_true rfl) dX6_faultOf_2 ?_
  refine V.top (y := 1) (by rw [hm]; rfl) ?_
  refine V_if_eq X (tgt := 16) (by decide) dX6_faultOf_5 (fun hc5 => absurd hc5 (by decide)) (fun hc5 => ?_)
  refine V_aload_n X rfl dX6_faultOf_8 ?_
  refine V_iload_n X rfl dX6_faultOf_9 ?_
  refine V_callVp X (rest := _) (c_X6_isPlayer _ _ _ am sc ar hR _) hR.1 rfl gX6_faultOf_X6_isPlayer rfl hdv_X6_isPlayer (Nat.le_of_ble_eq_true rfl) (Nat.le_of_ble_eq_true rfl) rfl (Nat.le_of_ble_eq_true rfl) dX6_faultOf_10 ?_
  refine V.top (y := 1) (by rw [hp]; rfl) ?_
  refine V_if_ne X (tgt := 18) (by decide) dX6_faultOf_13 (fun hc13 => ?_) (fun hc13 => absurd hc13 (by decide))
  refine V_aload_n X rfl dX6_faultOf_18 ?_
  refine V_mget X hR (v := .ref (am 15)) 17 (by decide) hinX6_faultOf_X6 (rfl) (by decide +kernel) rfl dX6_faultOf_19 ?_
  refine V_iload_n X rfl dX6_faultOf_22 ?_
  refine V_mald X hR 15 (k) 600 (by decide) rfl (by omega) (by decide) rfl dX6_faultOf_23 ?_
  refine V_if_ne X (tgt := 52) (by decide) dX6_faultOf_24 (fun hc24 => absurd hc24 (not_not_intro hs)) (fun hc24 => ?_)
  refine V_aload_n X rfl dX6_faultOf_27 ?_
  refine V_iload_n X rfl dX6_faultOf_28 ?_
  refine V_callVp X (rest := _) (c_X6_allOf _ _ _ am _ _ hR k (by omega)) hR.1 rfl gX6_faultOf_X6_allOf rfl hdv_X6_allOf (Nat.le_of_ble_eq_true rfl) (Nat.le_of_ble_eq_true rfl) rfl (Nat.le_of_ble_eq_true rfl) dX6_faultOf_29 ?_
  refine V_aload_n X rfl dX6_faultOf_32 ?_
  refine V_mget X hR (v := .ref (am 14)) 16 (by decide) hinX6_faultOf_X6 (rfl) (by decide +kernel) rfl dX6_faultOf_33 ?_
  refine V_iload_n X rfl dX6_faultOf_36 ?_
  refine V_mald X hR 14 (k) 600 (by decide) rfl (by omega) (by decide) rfl dX6_faultOf_37 ?_
  refine V_iconst X (v := (-1)) (by decide) dX6_faultOf_38 ?_
  refine V_ixor X dX6_faultOf_39 ?_
  refine V_iand X dX6_faultOf_40 ?_
  refine V_iload_n X rfl dX6_faultOf_41 ?_
  refine V_callSp X (rest := _) (c_X6_has _ _ _ _ _) gX6_faultOf_X6_has rfl hds_X6_has (Nat.le_of_ble_eq_true rfl) (Nat.le_of_ble_eq_true rfl) rfl (Nat.le_of_ble_eq_true rfl) dX6_faultOf_42 ?_
  refine V.top (y := 1) (by have h9 := hh; unfold lateI at h9; rw [h9]; rfl) ?_
  refine V_if_eq X (tgt := 52) (by decide) dX6_faultOf_45 (fun hc45 => absurd hc45 (by decide)) (fun hc45 => ?_)
  refine V_iconst X (v := 0) (by decide) dX6_faultOf_48 ?_
  refine V_goto X (tgt := 53) (by decide) dX6_faultOf_49 ?_
  exact V_iret X hr (⟨rfl, rfl⟩) dX6_faultOf_53
set_option maxHeartbeats 4000000 in
set_option maxRecDepth 100000 in
theorem c_X6_accept_e (l : Launch) (G : GG) (f : Wo) (am : Nat → Nat) (sc : Nat → Int32) (ar : Nat → Nat → Int32) (hR : RM G am sc ar f) (m p e : Int32) (he : ¬ e = 0) (hfo : ∀ (l : Launch), Cp l yX6_faultOf wsX6_faultOf 3 87 G [.ref (am 0), .int m, .int p] f (.int e)) : Ct l yX6_accept wsX6_accept 4 109 G [.ref (am 0), .int m, .int p] f (fun v9 f' => v9 = some (.int 0) ∧ RM G am (va_up sc 7 e) (ar) f' ∧ FrM am f f') 0 0 := by
  refine Ct.of (cc := cX6_accept) (maxL := 3) (ret := (some .boolean)) (by decide) rfl (Nat.le_of_ble_eq_true rfl) (lv := [(0, _), (1, _), (2, _)]) rfl (by simp [Value.category]) ?_
  intro K X hL hG hr hnm
  subst hL; subst hG
  have hF : FrM am f f := FrM.rf
  refine V_aload_n X rfl dX6_accept_0 ?_
  refine V_aload_n X rfl dX6_accept_1 ?_
  refine V_iload_n X rfl dX6_accept_2 ?_
  refine V_iload_n X rfl dX6_accept_3 ?_
  refine V_callVp X (rest := _) (hfo _) hR.1 rfl gX6_accept_X6_faultOf rfl hdv_X6_faultOf (Nat.le_of_ble_eq_true rfl) (Nat.le_of_ble_eq_true rfl) rfl (Nat.le_of_ble_eq_true rfl) dX6_accept_4 ?_
  refine V_callV (kc' := 0) (ks' := 0) X (rest := _) (c_X6_can _ _ _ am _ ar hR _) hR.1 rfl gX6_accept_X6_can rfl hdv_X6_can (Nat.le_of_ble_eq_true rfl) (Nat.le_of_ble_eq_true rfl) rfl (Nat.le_of_ble_eq_true rfl) (by omega) (by omega) dX6_accept_7 (fun r f1 hq => ?_)
  obtain ⟨rfl, hR, hF1⟩ := hq
  have hF := hF.trans hF1
  refine V.top (y := 0) (by rw [decide_eq_false he]; rfl) ?_
  refine V_if_ne X (tgt := 15) (by decide) dX6_accept_10 (fun hc10 => absurd hc10 (by decide)) (fun hc10 => ?_)
  refine V_iconst X (v := 0) (by decide) dX6_accept_13 ?_
  exact V_zret X hr (by decide) (⟨rfl, hR, hF⟩) dX6_accept_14
set_option maxHeartbeats 4000000 in
set_option maxRecDepth 100000 in
theorem c_X6_decline_e (l : Launch) (G : GG) (f : Wo) (am : Nat → Nat) (sc : Nat → Int32) (ar : Nat → Nat → Int32) (hR : RM G am sc ar f) (m p e : Int32) (he : ¬ e = 0) (hfo : ∀ (l : Launch), Cp l yX6_faultOf wsX6_faultOf 3 87 G [.ref (am 0), .int m, .int p] f (.int e)) : Ct l yX6_decline wsX6_decline 4 111 G [.ref (am 0), .int m, .int p] f (fun v9 f' => v9 = some (.int 0) ∧ RM G am (va_up sc 7 e) (ar) f' ∧ FrM am f f') 0 0 := by
  refine Ct.of (cc := cX6_decline) (maxL := 3) (ret := (some .int)) (by decide) rfl (Nat.le_of_ble_eq_true rfl) (lv := [(0, _), (1, _), (2, _)]) rfl (by simp [Value.category]) ?_
  intro K X hL hG hr hnm
  subst hL; subst hG
  have hF : FrM am f f := FrM.rf
  refine V_aload_n X rfl dX6_decline_0 ?_
  refine V_aload_n X rfl dX6_decline_1 ?_
  refine V_iload_n X rfl dX6_decline_2 ?_
  refine V_iload_n X rfl dX6_decline_3 ?_
  refine V_callVp X (rest := _) (hfo _) hR.1 rfl gX6_decline_X6_faultOf rfl hdv_X6_faultOf (Nat.le_of_ble_eq_true rfl) (Nat.le_of_ble_eq_true rfl) rfl (Nat.le_of_ble_eq_true rfl) dX6_decline_4 ?_
  refine V_callV (kc' := 0) (ks' := 0) X (rest := _) (c_X6_can _ _ _ am _ ar hR _) hR.1 rfl gX6_decline_X6_can rfl hdv_X6_can (Nat.le_of_ble_eq_true rfl) (Nat.le_of_ble_eq_true rfl) rfl (Nat.le_of_ble_eq_true rfl) (by omega) (by omega) dX6_decline_7 (fun r f1 hq => ?_)
  obtain ⟨rfl, hR, hF1⟩ := hq
  have hF := hF.trans hF1
  refine V.top (y := 0) (by rw [decide_eq_false he]; rfl) ?_
  refine V_if_ne X (tgt := 15) (by decide) dX6_decline_10 (fun hc10 => absurd hc10 (by decide)) (fun hc10 => ?_)
  refine V_iconst X (v := 0) (by decide) dX6_decline_13 ?_
  exact V_iret X hr (⟨rfl, hR, hF⟩) dX6_decline_14
theorem hinX6_accept_X6 : ∀ w ∈ wsX60, w ∈ wsX6_accept := by decide +kernel
set_option maxHeartbeats 4000000 in
set_option maxRecDepth 100000 in
theorem c_X6_accept_0 (l : Launch) (G : GG) (f : Wo) (am : Nat → Nat) (sc : Nat → Int32) (ar : Nat → Nat → Int32) (hR : RM G am sc ar f) (k : Nat) (hk : k < 600) (p : Int32) (hfo : ∀ (l : Launch), Cp l yX6_faultOf wsX6_faultOf 3 87 G [.ref (am 0), .int (nI k), .int p] f (.int 0)) : Ct l yX6_accept wsX6_accept 4 109 G [.ref (am 0), .int (nI k), .int p] f (fun v9 f' => v9 = some (.int (bI (decide ((ar 14 k ||| 1 <<< (p &&& 31)) = allI (ar 11) k)))) ∧ RM G am (va_up sc 7 0) (va_up (va_up ar 14 (va_up (ar 14) k (ar 14 k ||| 1 <<< (p &&& 31)))) 15 (va_up (ar 15) k (bI (decide ((ar 14 k ||| 1 <<< (p &&& 31)) = allI (ar 11) k))))) f' ∧ FrM am f f') 0 0 := by
  refine Ct.of (cc := cX6_accept) (maxL := 3) (ret := (some .boolean)) (by decide) rfl (Nat.le_of_ble_eq_true rfl) (lv := [(0, _), (1, _), (2, _)]) rfl (by simp [Value.category]) ?_
  intro K X hL hG hr hnm
  subst hL; subst hG
  have hF : FrM am f f := FrM.rf
  refine V_aload_n X rfl dX6_accept_0 ?_
  refine V_aload_n X rfl dX6_accept_1 ?_
  refine V_iload_n X rfl dX6_accept_2 ?_
  refine V_iload_n X rfl dX6_accept_3 ?_
  refine V_callVp X (rest := _) (hfo _) hR.1 rfl gX6_accept_X6_faultOf rfl hdv_X6_faultOf (Nat.le_of_ble_eq_true rfl) (Nat.le_of_ble_eq_true rfl) rfl (Nat.le_of_ble_eq_true rfl) dX6_accept_4 ?_
  refine V_callV (kc' := 0) (ks' := 0) X (rest := _) (c_X6_can _ _ _ am _ ar hR _) hR.1 rfl gX6_accept_X6_can rfl hdv_X6_can (Nat.le_of_ble_eq_true rfl) (Nat.le_of_ble_eq_true rfl) rfl (Nat.le_of_ble_eq_true rfl) (by omega) (by omega) dX6_accept_7 (fun r f1 hq => ?_)
  obtain ⟨rfl, hR, hF1⟩ := hq
  have hF := hF.trans hF1
  refine V.top (y := 1) (by decide) ?_
  refine V_if_ne X (tgt := 15) (by decide) dX6_accept_10 (fun hc10 => ?_) (fun hc10 => absurd hc10 (by decide))
  refine V_aload_n X rfl dX6_accept_15 ?_
  refine V_mget X hR (v := .ref (am 14)) 16 (by decide) hinX6_accept_X6 (rfl) (by decide +kernel) rfl dX6_accept_16 ?_
  refine V_iload_n X rfl dX6_accept_19 ?_
  refine V_dup2 X rfl rfl dX6_accept_20 ?_
  refine V_mald X hR 14 (k) 600 (by decide) rfl (by omega) (by decide) rfl dX6_accept_21 ?_
  refine V_iconst X (v := 1) (by decide) dX6_accept_22 ?_
  refine V_iload_n X rfl dX6_accept_23 ?_
  refine V_ishl X dX6_accept_24 ?_
  refine V_ior X dX6_accept_25 ?_
  refine V_mast X hR hF 14 (k) 600 (by decide) rfl (by omega) (by decide) dX6_accept_26 (fun f hR hF => ?_)
  refine V_aload_n X rfl dX6_accept_27 ?_
  refine V_mget X hR (v := .ref (am 15)) 17 (by decide) hinX6_accept_X6 (rfl) (by decide +kernel) rfl dX6_accept_28 ?_
  refine V_iload_n X rfl dX6_accept_31 ?_
  refine V_aload_n X rfl dX6_accept_32 ?_
  refine V_mget X hR (v := .ref (am 14)) 16 (by decide) hinX6_accept_X6 (rfl) (by decide +kernel) rfl dX6_accept_33 ?_
  refine V_iload_n X rfl dX6_accept_36 ?_
  refine V_mald X hR 14 (k) 600 (by decide) rfl (by omega) (by decide) (w := ar 14 k ||| 1 <<< (p &&& 31)) (by simp [va_up]) dX6_accept_37 ?_
  refine V_aload_n X rfl dX6_accept_38 ?_
  refine V_iload_n X rfl dX6_accept_39 ?_
  refine V_callVp X (rest := _) (c_X6_allOf _ _ _ am _ _ hR k (by omega)) hR.1 rfl gX6_accept_X6_allOf rfl hdv_X6_allOf (Nat.le_of_ble_eq_true rfl) (Nat.le_of_ble_eq_true rfl) rfl (Nat.le_of_ble_eq_true rfl) dX6_accept_40 ?_
  refine V_icmp_ne X (tgt := 50) (by decide) dX6_accept_43 (fun hc43 => ?_) (fun hc43 => ?_)
  · have hc43 : ¬ (ar 14 k ||| 1 <<< (p &&& 31)) = allI (ar 11) k := hc43
    refine V_iconst X (v := 0) (by decide) dX6_accept_50 ?_
    refine V.top (y := bI (decide ((ar 14 k ||| 1 <<< (p &&& 31)) = allI (ar 11) k))) (by rw [decide_eq_false hc43]; rfl) ?_
    refine V_mast X hR hF 15 (k) 600 (by decide) rfl (by omega) (by decide) dX6_accept_51 (fun f hR hF => ?_)
    refine V_aload_n X rfl dX6_accept_52 ?_
    refine V_mget X hR (v := .ref (am 15)) 17 (by decide) hinX6_accept_X6 (rfl) (by decide +kernel) rfl dX6_accept_53 ?_
    refine V_iload_n X rfl dX6_accept_56 ?_
    refine V_mald X hR 15 (k) 600 (by decide) rfl (by omega) (by decide) (w := bI (decide ((ar 14 k ||| 1 <<< (p &&& 31)) = allI (ar 11) k))) (by simp [va_up]) dX6_accept_57 ?_
    refine V_iconst X (v := 1) (by decide) dX6_accept_58 ?_
    refine V_icmp_ne X (tgt := 66) (by decide) dX6_accept_59 (fun hc59 => ?_) (fun hc59 => absurd hc59 (by rw [decide_eq_false hc43]; decide))
    refine V_iconst X (v := 0) (by decide) dX6_accept_66 ?_
    exact V_zret X hr (by decide) (⟨by rw [decide_eq_false hc43]; rfl, hR, hF⟩) dX6_accept_67
  · have hc43 : (ar 14 k ||| 1 <<< (p &&& 31)) = allI (ar 11) k := hc43
    refine V_iconst X (v := 1) (by decide) dX6_accept_46 ?_
    refine V_goto X (tgt := 51) (by decide) dX6_accept_47 ?_
    refine V.top (y := bI (decide ((ar 14 k ||| 1 <<< (p &&& 31)) = allI (ar 11) k))) (by rw [decide_eq_true hc43]; rfl) ?_
    refine V_mast X hR hF 15 (k) 600 (by decide) rfl (by omega) (by decide) dX6_accept_51 (fun f hR hF => ?_)
    refine V_aload_n X rfl dX6_accept_52 ?_
    refine V_mget X hR (v := .ref (am 15)) 17 (by decide) hinX6_accept_X6 (rfl) (by decide +kernel) rfl dX6_accept_53 ?_
    refine V_iload_n X rfl dX6_accept_56 ?_
    refine V_mald X hR 15 (k) 600 (by decide) rfl (by omega) (by decide) (w := bI (decide ((ar 14 k ||| 1 <<< (p &&& 31)) = allI (ar 11) k))) (by simp [va_up]) dX6_accept_57 ?_
    refine V_iconst X (v := 1) (by decide) dX6_accept_58 ?_
    refine V_icmp_ne X (tgt := 66) (by decide) dX6_accept_59 (fun hc59 => absurd hc59 (by rw [decide_eq_true hc43]; decide)) (fun hc59 => ?_)
    refine V_iconst X (v := 1) (by decide) dX6_accept_62 ?_
    refine V_goto X (tgt := 67) (by decide) dX6_accept_63 ?_
    exact V_zret X hr (by decide) (⟨by rw [decide_eq_true hc43]; rfl, hR, hF⟩) dX6_accept_67
/-- the next penalty level, and its minutes -/
def lvI (x : Int32) : Int32 := x + (if 5 ≤ x then 0 else 1)
def mtI (x : Int32) : Int32 := 5 <<< ((lvI x - 1) &&& 31)
theorem hinX6_bars_X6 : ∀ w ∈ wsX60, w ∈ wsX6_bars := by decide +kernel
set_option maxHeartbeats 4000000 in
set_option maxRecDepth 100000 in
theorem c_X6_bars (l : Launch) (G : GG) (f : Wo) (am : Nat → Nat) (sc : Nat → Int32) (ar : Nat → Nat → Int32) (hR : RM G am sc ar f) (k : Nat) (hk : k < 18) : Ct l yX6_bars wsX6_bars 1 44 G [.ref (am 0), .int (nI k)] f (fun v9 f' => v9 = some (.int (mtI (ar 4 k))) ∧ RM G am (sc) (va_up (va_up ar 4 (va_up (ar 4) k (lvI (ar 4 k)))) 6 (va_up (ar 6) k (sc 3 + mtI (ar 4 k)))) f' ∧ FrM am f f') 0 0 := by
  refine Ct.of (cc := cX6_bars) (maxL := 3) (ret := (some .int)) (by decide) rfl (Nat.le_of_ble_eq_true rfl) (lv := [(0, _), (1, _)]) rfl (by simp [Value.category]) ?_
  intro K X hL hG hr hnm
  subst hL; subst hG
  have hF : FrM am f f := FrM.rf
  refine V_aload_n X rfl dX6_bars_0 ?_
  refine V_mget X hR (v := .ref (am 4)) 4 (by decide) hinX6_bars_X6 (rfl) (by decide +kernel) rfl dX6_bars_1 ?_
  refine V_iload_n X rfl dX6_bars_4 ?_
  refine V_dup2 X rfl rfl dX6_bars_5 ?_
  refine V_mald X hR 4 (k) 18 (by decide) rfl (by omega) (by decide) rfl dX6_bars_6 ?_
  refine V_aload_n X rfl dX6_bars_7 ?_
  refine V_mget X hR (v := .ref (am 4)) 4 (by decide) hinX6_bars_X6 (rfl) (by decide +kernel) rfl dX6_bars_8 ?_
  refine V_iload_n X rfl dX6_bars_11 ?_
  refine V_mald X hR 4 (k) 18 (by decide) rfl (by omega) (by decide) rfl dX6_bars_12 ?_
  refine V_iconst X (v := 5) (by decide) dX6_bars_13 ?_
  refine V_icmp_ge X (tgt := 21) (by decide) dX6_bars_14 (fun hc14 => ?_) (fun hc14 => ?_)
  · refine V_iconst X (v := 0) (by decide) dX6_bars_21 ?_
    refine V_iadd X dX6_bars_22 ?_
    refine V.top (y := lvI (ar 4 k)) (congrArg (ar 4 k + ·) (if_pos hc14).symm) ?_
    refine V_mast X hR hF 4 (k) 18 (by decide) rfl (by omega) (by decide) dX6_bars_23 (fun f hR hF => ?_)
    refine V_iconst X (v := 5) (by decide) dX6_bars_24 ?_
    refine V_aload_n X rfl dX6_bars_25 ?_
    refine V_mget X hR (v := .ref (am 4)) 4 (by decide) hinX6_bars_X6 (rfl) (by decide +kernel) rfl dX6_bars_26 ?_
    refine V_iload_n X rfl dX6_bars_29 ?_
    refine V_mald X hR 4 (k) 18 (by decide) rfl (by omega) (by decide) (w := lvI (ar 4 k)) (by simp [va_up]) dX6_bars_30 ?_
    refine V_iconst X (v := 1) (by decide) dX6_bars_31 ?_
    refine V_isub X dX6_bars_32 ?_
    refine V_ishl X dX6_bars_33 ?_
    refine V_istore_n X (lv' := [(2, _), (0, _), (1, _)]) (by decide) rfl dX6_bars_34 ?_
    refine V_aload_n X rfl dX6_bars_35 ?_
    refine V_mget X hR (v := .ref (am 6)) 6 (by decide) hinX6_bars_X6 (rfl) (by decide +kernel) rfl dX6_bars_36 ?_
    refine V_iload_n X rfl dX6_bars_39 ?_
    refine V_aload_n X rfl dX6_bars_40 ?_
    refine V_mget X hR (v := .int (sc 3)) 18 (by decide) hinX6_bars_X6 (congrArg (fun z => some (Value.int z)) (rfl)) (by decide +kernel) rfl dX6_bars_41 ?_
    refine V_iload_n X rfl dX6_bars_44 ?_
    refine V_iadd X dX6_bars_45 ?_
    refine V_mast X hR hF 6 (k) 18 (by decide) rfl (by omega) (by decide) dX6_bars_46 (fun f hR hF => ?_)
    refine V_iload_n X rfl dX6_bars_47 ?_
    exact V_iret X hr (⟨rfl, hR, hF⟩) dX6_bars_48
  · refine V_iconst X (v := 1) (by decide) dX6_bars_17 ?_
    refine V_goto X (tgt := 22) (by decide) dX6_bars_18 ?_
    refine V_iadd X dX6_bars_22 ?_
    refine V.top (y := lvI (ar 4 k)) (congrArg (ar 4 k + ·) (if_neg hc14).symm) ?_
    refine V_mast X hR hF 4 (k) 18 (by decide) rfl (by omega) (by decide) dX6_bars_23 (fun f hR hF => ?_)
    refine V_iconst X (v := 5) (by decide) dX6_bars_24 ?_
    refine V_aload_n X rfl dX6_bars_25 ?_
    refine V_mget X hR (v := .ref (am 4)) 4 (by decide) hinX6_bars_X6 (rfl) (by decide +kernel) rfl dX6_bars_26 ?_
    refine V_iload_n X rfl dX6_bars_29 ?_
    refine V_mald X hR 4 (k) 18 (by decide) rfl (by omega) (by decide) (w := lvI (ar 4 k)) (by simp [va_up]) dX6_bars_30 ?_
    refine V_iconst X (v := 1) (by decide) dX6_bars_31 ?_
    refine V_isub X dX6_bars_32 ?_
    refine V_ishl X dX6_bars_33 ?_
    refine V_istore_n X (lv' := [(2, _), (0, _), (1, _)]) (by decide) rfl dX6_bars_34 ?_
    refine V_aload_n X rfl dX6_bars_35 ?_
    refine V_mget X hR (v := .ref (am 6)) 6 (by decide) hinX6_bars_X6 (rfl) (by decide +kernel) rfl dX6_bars_36 ?_
    refine V_iload_n X rfl dX6_bars_39 ?_
    refine V_aload_n X rfl dX6_bars_40 ?_
    refine V_mget X hR (v := .int (sc 3)) 18 (by decide) hinX6_bars_X6 (congrArg (fun z => some (Value.int z)) (rfl)) (by decide +kernel) rfl dX6_bars_41 ?_
    refine V_iload_n X rfl dX6_bars_44 ?_
    refine V_iadd X dX6_bars_45 ?_
    refine V_mast X hR hF 6 (k) 18 (by decide) rfl (by omega) (by decide) dX6_bars_46 (fun f hR hF => ?_)
    refine V_iload_n X rfl dX6_bars_47 ?_
    exact V_iret X hr (⟨rfl, hR, hF⟩) dX6_bars_48
/-- the players' states while a match ends -/
def inB (mk : Nat → Int32) (b : Int32) : Nat → Int32 := fun k => if mk k &&& b = 0 then 1 else 0
def enF (np : Nat) (mk : Nat → Int32) (mo : Nat → Int32) (m b : Int32) (g : Nat → Int32) : Nat → (Nat → Int32)
  | 0 => g
  | k + 1 => if mo k = m then becF np (mk k) (inB mk b k) (enF np mk mo m b g k) else enF np mk mo m b g k
theorem enF_t {np : Nat} {mk mo : Nat → Int32} {m b : Int32} {g : Nat → Int32} {k : Nat} (h : mo k = m) : becF np (mk k) (inB mk b k) (enF np mk mo m b g k) = enF np mk mo m b g (k + 1) := (if_pos h).symm
theorem enF_f {np : Nat} {mk mo : Nat → Int32} {m b : Int32} {g : Nat → Int32} {k : Nat} (h : ¬ mo k = m) : enF np mk mo m b g k = enF np mk mo m b g (k + 1) := (if_neg h).symm
def eqB (a : Nat → Int32) (x : Int32) : Nat → Bool := fun k => decide (a k = x)
theorem inB_nar (mk : Nat → Int32) (b : Int32) (k : Nat) : narrow .boolean (.int (inB mk b k)) = .int (inB mk b k) := by
  unfold inB
  by_cases h : mk k &&& b = 0
  · rw [if_pos h]; decide
  · rw [if_neg h]; decide
def endA (np nt m : Nat) (b : Int32) (ar : Nat → Nat → Int32) : Nat → Nat → Int32 := fun j => if j = 5 then enF np (ar 7) (ar 10) (nI m) b (ar 5) nt else if j = 9 then ifF nt (eqB (ar 10) (nI m)) (inB (ar 7) b) (ar 9) else if j = 10 then ifF nt (eqB (ar 10) (nI m)) (fun _ => -1) (ar 10) else if j = 15 then va_up (ar 15) m 2 else ar j
theorem endA_of {np nt m : Nat} {b : Int32} {ar ar' : Nat → Nat → Int32} (h5 : ar' 5 = enF np (ar 7) (ar 10) (nI m) b (ar 5) nt) (h9 : ar' 9 = ifF nt (eqB (ar 10) (nI m)) (inB (ar 7) b) (ar 9)) (h10 : ar' 10 = ifF nt (eqB (ar 10) (nI m)) (fun _ => -1) (ar 10)) (h15 : ar' 15 = va_up (ar 15) m 2) (hoth : ∀ j, j ≠ 5 → j ≠ 9 → j ≠ 10 → j ≠ 15 → ar' j = ar j) : ar' = endA np nt m b ar := by
  funext j
  unfold endA
  by_cases e5 : j = 5
  · rw [if_pos e5, e5]; exact h5
  · rw [if_neg e5]
    by_cases e9 : j = 9
    · rw [if_pos e9, e9]; exact h9
    · rw [if_neg e9]
      by_cases e10 : j = 10
      · rw [if_pos e10, e10]; exact h10
      · rw [if_neg e10]
        by_cases e15 : j = 15
        · rw [if_pos e15, e15]; exact h15
        · rw [if_neg e15]; exact hoth j e5 e9 e10 e15
theorem hinX6_ends_X6 : ∀ w ∈ wsX60, w ∈ wsX6_ends := by decide +kernel
set_option maxHeartbeats 4000000 in
set_option maxRecDepth 100000 in
theorem c_X6_ends (l : Launch) (G : GG) (f : Wo) (am : Nat → Nat) (sc : Nat → Int32) (ar : Nat → Nat → Int32) (hR : RM G am sc ar f) (np : Nat) (hnp : sc 0 = nI np) (hp18 : np ≤ 18) (nt : Nat) (hnt : sc 1 = nI nt) (ht100 : nt ≤ 100) (k : Nat) (hk : k < 600) (b : Int32) : Ct l yX6_ends wsX6_ends 3 88 G [.ref (am 0), .int (nI k), .int b] f (fun v9 f' => v9 = none ∧ RM G am (sc) (endA np nt k b ar) f' ∧ FrM am f f') 0 0 := by
  refine Ct.of (cc := cX6_ends) (maxL := 4) (ret := none) (by decide) rfl (Nat.le_of_ble_eq_true rfl) (lv := [(0, _), (1, _), (2, _)]) rfl (by simp [Value.category]) ?_
  intro K X hL hG hr hnm
  subst hL; subst hG
  have hF : FrM am f f := FrM.rf
  have L : ∀ (n i : Nat), nt - i = n → i ≤ nt → ∀ (fw : Wo) (ar' : Nat → Nat → Int32), RM (kG K) am sc ar' fw → FrM am f fw → (ar' 5 = enF np (ar 7) (ar 10) (nI k) b (ar 5) i ∧ ar' 9 = ifF i (eqB (ar 10) (nI k)) (inB (ar 7) b) (ar 9) ∧ ar' 10 = ifF i (eqB (ar 10) (nI k)) (fun _ => -1) (ar 10) ∧ ar' 15 = va_up (ar 15) k 2 ∧ (∀ j, j ≠ 5 → j ≠ 9 → j ≠ 10 → j ≠ 15 → ar' j = ar j)) → V K fw 0 0 9 [(0, .ref (am 0)), (1, .int (nI k)), (2, .int b), (3, .int (nI i))] [] := by
    intro n
    induction n using Nat.strongRecOn with
    | ind n ih =>
      intro i hn hi f ar' hR hF ⟨h5, h9, h10, h15, hoth⟩
      refine V_iload_n X rfl dX6_ends_9 ?_
      refine V_aload_n X rfl dX6_ends_10 ?_
      refine V_mget X hR (v := .int (nI nt)) 7 (by decide) hinX6_ends_X6 (congrArg (fun z => some (Value.int z)) (hnt)) (by decide +kernel) rfl dX6_ends_11 ?_
      refine V_icmp_ge X (tgt := 86) (by decide) dX6_ends_14 (fun hc14 => ?_) (fun hc14 => ?_)
      · have hi18 := lim_ge (N := nt) rfl hc14 hi (by omega)
        subst hi18
        exact V_vret X hr (⟨rfl, by rw [← endA_of h5 h9 h10 h15 hoth]; exact hR, hF⟩) dX6_ends_86
      · have hlt := lim_lt (N := nt) rfl hc14 hi (by omega)
        refine V_aload_n X rfl dX6_ends_17 ?_
        refine V_mget X hR (v := .ref (am 10)) 11 (by decide) hinX6_ends_X6 (rfl) (by decide +kernel) rfl dX6_ends_18 ?_
        refine V_iload_n X rfl dX6_ends_21 ?_
        refine V_mald X hR 10 (i) 100 (by decide) rfl (by omega) (by decide) (w := ar 10 i) (by rw [h10]; exact ifF_i) dX6_ends_22 ?_
        refine V_iload_n X rfl dX6_ends_23 ?_
        refine V_icmp_ne X (tgt := 80) (by decide) dX6_ends_24 (fun hc24 => ?_) (fun hc24 => ?_)
        · refine V_iinc X (lv' := [(3, _), (0, _), (1, _), (2, _)]) (v := nI (i + 1)) rfl (nI_1 _) (by decide) rfl dX6_ends_80 ?_
          refine V_goto X (tgt := 9) (by decide) dX6_ends_83 ?_
          refine V.lvs (lv' := [(0, _), (1, _), (2, _), (3, _)]) rfl ?_
          exact ih (nt - (i + 1)) (by omega) (i + 1) rfl (by omega) _ ar' hR hF ⟨h5.trans (enF_f hc24), h9.trans (ifF_f (decide_eq_false hc24)), h10.trans (ifF_f (decide_eq_false hc24)), h15, hoth⟩
        · refine V_aload_n X rfl dX6_ends_27 ?_
          refine V_mget X hR (v := .ref (am 9)) 10 (by decide) hinX6_ends_X6 (rfl) (by decide +kernel) rfl dX6_ends_28 ?_
          refine V_iload_n X rfl dX6_ends_31 ?_
          refine V_aload_n X rfl dX6_ends_32 ?_
          refine V_mget X hR (v := .ref (am 7)) 8 (by decide) hinX6_ends_X6 (rfl) (by decide +kernel) rfl dX6_ends_33 ?_
          refine V_iload_n X rfl dX6_ends_36 ?_
          refine V_mald X hR 7 (i) 100 (by decide) rfl (by omega) (by decide) (w := ar 7 i) (by simp [va_up, hoth]) dX6_ends_37 ?_
          refine V_iload_n X rfl dX6_ends_38 ?_
          refine V_iand X dX6_ends_39 ?_
          refine V_if_ne X (tgt := 47) (by decide) dX6_ends_40 (fun hc40 => ?_) (fun hc40 => ?_)
          · refine V_iconst X (v := 0) (by decide) dX6_ends_47 ?_
            refine V.top (y := inB (ar 7) b i) ((if_neg hc40).symm) ?_
            refine V_mzst X hR hF (i) (by omega) (inB_nar _ _ _) dX6_ends_48 (fun f hR hF => ?_)
            refine V_aload_n X rfl dX6_ends_49 ?_
            refine V_mget X hR (v := .ref (am 10)) 11 (by decide) hinX6_ends_X6 (rfl) (by decide +kernel) rfl dX6_ends_50 ?_
            refine V_iload_n X rfl dX6_ends_53 ?_
            refine V_iconst X (v := (-1)) (by decide) dX6_ends_54 ?_
            refine V_mast X hR hF 10 (i) 100 (by decide) rfl (by omega) (by decide) dX6_ends_55 (fun f hR hF => ?_)
            refine V_aload_n X rfl dX6_ends_56 ?_
            refine V_aload_n X rfl dX6_ends_57 ?_
            refine V_mget X hR (v := .ref (am 7)) 8 (by decide) hinX6_ends_X6 (rfl) (by decide +kernel) rfl dX6_ends_58 ?_
            refine V_iload_n X rfl dX6_ends_61 ?_
            refine V_mald X hR 7 (i) 100 (by decide) rfl (by omega) (by decide) (w := ar 7 i) (by simp [va_up, hoth]) dX6_ends_62 ?_
            refine V_aload_n X rfl dX6_ends_63 ?_
            refine V_mget X hR (v := .ref (am 9)) 10 (by decide) hinX6_ends_X6 (rfl) (by decide +kernel) rfl dX6_ends_64 ?_
            refine V_iload_n X rfl dX6_ends_67 ?_
            refine V_mzld X hR (i) (by omega) (w := inB (ar 7) b i) (by simp [va_up]) dX6_ends_68 ?_
            refine V_if_eq X (tgt := 76) (by decide) dX6_ends_69 (fun hc69 => ?_) (fun hc69 => absurd hc69 (by rw [inB, if_neg hc40]; decide))
            refine V_iconst X (v := 0) (by decide) dX6_ends_76 ?_
            refine V.top (y := inB (ar 7) b i) ((if_neg hc40).symm) ?_
            refine V_callV (kc' := 0) (ks' := 0) X (rest := _) (c_X6_become _ _ _ am _ _ hR np hnp hp18 _ _) hR.1 rfl gX6_ends_X6_become rfl hdv_X6_become (Nat.le_of_ble_eq_true rfl) (Nat.le_of_ble_eq_true rfl) rfl (Nat.le_of_ble_eq_true rfl) (by omega) (by omega) dX6_ends_77 (fun r f1 hq => ?_)
            obtain ⟨rfl, hR, hF1⟩ := hq
            have hF := hF.trans hF1
            refine V_iinc X (lv' := [(3, _), (0, _), (1, _), (2, _)]) (v := nI (i + 1)) rfl (nI_1 _) (by decide) rfl dX6_ends_80 ?_
            refine V_goto X (tgt := 9) (by decide) dX6_ends_83 ?_
            refine V.lvs (lv' := [(0, _), (1, _), (2, _), (3, _)]) rfl ?_
            exact ih (nt - (i + 1)) (by omega) (i + 1) rfl (by omega) _ _ hR hF ⟨by rw [va_up_self, ← enF_t hc24, ← h5]; simp [va_up], by simp only [va_up_ne _ _ (show (9 : Nat) ≠ 5 by decide), va_up_ne _ _ (show (9 : Nat) ≠ 10 by decide), va_up_self]; rw [h9]; exact ifF_t (decide_eq_true hc24) rfl, by simp only [va_up_ne _ _ (show (10 : Nat) ≠ 5 by decide), va_up_ne _ _ (show (10 : Nat) ≠ 9 by decide), va_up_self]; rw [h10]; exact ifF_t (decide_eq_true hc24) rfl, by simp [va_up]; simpa [va_up] using h15, fun j a b c d => by rw [va_up_ne _ _ a, va_up_ne _ _ c, va_up_ne _ _ b]; exact hoth j a b c d⟩
          · refine V_iconst X (v := 1) (by decide) dX6_ends_43 ?_
            refine V_goto X (tgt := 48) (by decide) dX6_ends_44 ?_
            refine V.top (y := inB (ar 7) b i) ((if_pos hc40).symm) ?_
            refine V_mzst X hR hF (i) (by omega) (inB_nar _ _ _) dX6_ends_48 (fun f hR hF => ?_)
            refine V_aload_n X rfl dX6_ends_49 ?_
            refine V_mget X hR (v := .ref (am 10)) 11 (by decide) hinX6_ends_X6 (rfl) (by decide +kernel) rfl dX6_ends_50 ?_
            refine V_iload_n X rfl dX6_ends_53 ?_
            refine V_iconst X (v := (-1)) (by decide) dX6_ends_54 ?_
            refine V_mast X hR hF 10 (i) 100 (by decide) rfl (by omega) (by decide) dX6_ends_55 (fun f hR hF => ?_)
            refine V_aload_n X rfl dX6_ends_56 ?_
            refine V_aload_n X rfl dX6_ends_57 ?_
            refine V_mget X hR (v := .ref (am 7)) 8 (by decide) hinX6_ends_X6 (rfl) (by decide +kernel) rfl dX6_ends_58 ?_
            refine V_iload_n X rfl dX6_ends_61 ?_
            refine V_mald X hR 7 (i) 100 (by decide) rfl (by omega) (by decide) (w := ar 7 i) (by simp [va_up, hoth]) dX6_ends_62 ?_
            refine V_aload_n X rfl dX6_ends_63 ?_
            refine V_mget X hR (v := .ref (am 9)) 10 (by decide) hinX6_ends_X6 (rfl) (by decide +kernel) rfl dX6_ends_64 ?_
            refine V_iload_n X rfl dX6_ends_67 ?_
            refine V_mzld X hR (i) (by omega) (w := inB (ar 7) b i) (by simp [va_up]) dX6_ends_68 ?_
            refine V_if_eq X (tgt := 76) (by decide) dX6_ends_69 (fun hc69 => absurd hc69 (by rw [inB, if_pos hc40]; decide)) (fun hc69 => ?_)
            refine V_iconst X (v := 1) (by decide) dX6_ends_72 ?_
            refine V_goto X (tgt := 77) (by decide) dX6_ends_73 ?_
            refine V.top (y := inB (ar 7) b i) ((if_pos hc40).symm) ?_
            refine V_callV (kc' := 0) (ks' := 0) X (rest := _) (c_X6_become _ _ _ am _ _ hR np hnp hp18 _ _) hR.1 rfl gX6_ends_X6_become rfl hdv_X6_become (Nat.le_of_ble_eq_true rfl) (Nat.le_of_ble_eq_true rfl) rfl (Nat.le_of_ble_eq_true rfl) (by omega) (by omega) dX6_ends_77 (fun r f1 hq => ?_)
            obtain ⟨rfl, hR, hF1⟩ := hq
            have hF := hF.trans hF1
            refine V_iinc X (lv' := [(3, _), (0, _), (1, _), (2, _)]) (v := nI (i + 1)) rfl (nI_1 _) (by decide) rfl dX6_ends_80 ?_
            refine V_goto X (tgt := 9) (by decide) dX6_ends_83 ?_
            refine V.lvs (lv' := [(0, _), (1, _), (2, _), (3, _)]) rfl ?_
            exact ih (nt - (i + 1)) (by omega) (i + 1) rfl (by omega) _ _ hR hF ⟨by rw [va_up_self, ← enF_t hc24, ← h5]; simp [va_up], by simp only [va_up_ne _ _ (show (9 : Nat) ≠ 5 by decide), va_up_ne _ _ (show (9 : Nat) ≠ 10 by decide), va_up_self]; rw [h9]; exact ifF_t (decide_eq_true hc24) rfl, by simp only [va_up_ne _ _ (show (10 : Nat) ≠ 5 by decide), va_up_ne _ _ (show (10 : Nat) ≠ 9 by decide), va_up_self]; rw [h10]; exact ifF_t (decide_eq_true hc24) rfl, by simp [va_up]; simpa [va_up] using h15, fun j a b c d => by rw [va_up_ne _ _ a, va_up_ne _ _ c, va_up_ne _ _ b]; exact hoth j a b c d⟩
  refine V_aload_n X rfl dX6_ends_0 ?_
  refine V_mget X hR (v := .ref (am 15)) 17 (by decide) hinX6_ends_X6 (rfl) (by decide +kernel) rfl dX6_ends_1 ?_
  refine V_iload_n X rfl dX6_ends_4 ?_
  refine V_iconst X (v := 2) (by decide) dX6_ends_5 ?_
  refine V_mast X hR hF 15 (k) 600 (by decide) rfl (by omega) (by decide) dX6_ends_6 (fun f hR hF => ?_)
  refine V_iconst X (v := 0) (by decide) dX6_ends_7 ?_
  refine V_istore_n X (lv' := [(3, _), (0, _), (1, _), (2, _)]) (by decide) rfl dX6_ends_8 ?_
  refine V.lvs (lv' := [(0, _), (1, _), (2, _), (3, _)]) rfl ?_
  exact L nt 0 (by omega) (by omega) _ _ hR hF ⟨by simp [va_up, enF], by rw [ifF_0]; simp [va_up], by rw [ifF_0]; simp [va_up], by rw [va_up_self], fun j _ _ _ d => by rw [va_up_ne _ _ d]⟩
