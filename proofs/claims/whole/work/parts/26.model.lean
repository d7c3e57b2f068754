set_option maxHeartbeats 4000000 in
set_option maxRecDepth 100000 in
theorem c_X6_decline_0 (l : Launch) (G : GG) (f : Wo) (am : Nat → Nat) (sc : Nat → Int32) (ar : Nat → Nat → Int32) (hR : RM G am sc ar f) (np : Nat) (hnp : sc 0 = nI np) (hp18 : np ≤ 18) (nt : Nat) (hnt : sc 1 = nI nt) (ht100 : nt ≤ 100) (k : Nat) (hk : k < 600) (q : Nat) (hq18 : q < 18) (hfo : ∀ (l : Launch), Cp l yX6_faultOf wsX6_faultOf 3 87 G [.ref (am 0), .int (nI k), .int (nI q)] f (.int 0)) : Ct l yX6_decline wsX6_decline 4 111 G [.ref (am 0), .int (nI k), .int (nI q)] f (fun v9 f' => v9 = some (.int (mtI (ar 4 q))) ∧ RM G am (va_up sc 7 0) (va_up (va_up (endA np nt k (1 <<< (nI q &&& 31)) ar) 4 (va_up (ar 4) q (lvI (ar 4 q)))) 6 (va_up (ar 6) q (sc 3 + mtI (ar 4 q)))) f' ∧ FrM am f f') 0 0 := by
  refine Ct.of (cc := cX6_decline) (maxL := 3) (ret := (some .int)) (by decide) rfl (Nat.le_of_ble_eq_true rfl) (lv := [(0, _), (1, _), (2, _)]) rfl (by simp [Value.category]) ?_
  intro K X hL hG hr hnm
  subst hL; subst hG
  have hF : FrM am f f := FrM.rf
  refine V_aload_n X rfl dX6_decline_0 ?_
  refine V_aload_n X rfl dX6_decline_1 ?_
  refine V_iload_n X rfl dX6_decline_2 ?_
  refine V_iload_n X rfl dX6_decline_3 ?_
  refine V_callVp X (rest := _) (hfo _) hR.1 rfl gX6_decline_X6_faultOf rfl hdv_X6_faultOf (Nat.le_of_ble_eq_true rfl) (Nat.le_of_ble_eq_true rfl) rfl (Nat.le_of_ble_eq_true rfl) dX6_decline_4 ?_
  refine V_callV (kc' := 0) (ks' := 0) X (rest := _) (c_X6_can _ _ _ am _ ar hR _) hR.1 rfl gX6_decline_X6_can rfl hdv_X6_can (Nat.le_of_ble_eq_true rfl) (Nat.le_of_ble_eq_true rfl) rfl (Nat.le_of_ble_eq_true rfl) (by omega) (by omega) dX6_decline_7 (fun r f1 hq => ?_)
  obtain ⟨rfl, hR, hF1⟩ := hq
  have hF := hF.trans hF1
  refine V.top (y := 1) (by decide) ?_
  refine V_if_ne X (tgt := 15) (by decide) dX6_decline_10 (fun hc10 => ?_) (fun hc10 => absurd hc10 (by decide))
  refine V_aload_n X rfl dX6_decline_15 ?_
  refine V_iload_n X rfl dX6_decline_16 ?_
  refine V_iconst X (v := 1) (by decide) dX6_decline_17 ?_
  refine V_iload_n X rfl dX6_decline_18 ?_
  refine V_ishl X dX6_decline_19 ?_
  refine V_callV (kc' := 0) (ks' := 0) X (rest := _) (c_X6_ends _ _ _ am _ _ hR np hnp hp18 nt hnt ht100 k hk _) hR.1 rfl gX6_decline_X6_ends rfl hdv_X6_ends (Nat.le_of_ble_eq_true rfl) (Nat.le_of_ble_eq_true rfl) rfl (Nat.le_of_ble_eq_true rfl) (by omega) (by omega) dX6_decline_20 (fun r f1 hq => ?_)
  obtain ⟨rfl, hR, hF1⟩ := hq
  have hF := hF.trans hF1
  refine V_aload_n X rfl dX6_decline_23 ?_
  refine V_iload_n X rfl dX6_decline_24 ?_
  refine V_callV (kc' := 0) (ks' := 0) X (rest := _) (c_X6_bars _ _ _ am _ _ hR q (by omega)) hR.1 rfl gX6_decline_X6_bars rfl hdv_X6_bars (Nat.le_of_ble_eq_true rfl) (Nat.le_of_ble_eq_true rfl) rfl (Nat.le_of_ble_eq_true rfl) (by omega) (by omega) dX6_decline_25 (fun r f1 hq => ?_)
  obtain ⟨rfl, hR, hF1⟩ := hq
  have hF := hF.trans hF1
  exact V_iret X hr (⟨rfl, hR, hF⟩) dX6_decline_28
set_option maxHeartbeats 4000000 in
set_option maxRecDepth 100000 in
theorem c_X6_matchState_1 (l : Launch) (G : GG) (f : Wo) (am : Nat → Nat) (sc : Nat → Int32) (ar : Nat → Nat → Int32) (hR : RM G am sc ar f) (m : Int32) (hm : inI m 0 (sc 2 - 1) = false) : Ct l yX6_matchState wsX6_matchState 3 87 G [.ref (am 0), .int m] f (fun v9 f' => v9 = some (.int 0) ∧ RM G am (va_up sc 7 1) (ar) f' ∧ FrM am f f') 0 0 := by
  refine Ct.of (cc := cX6_matchState) (maxL := 2) (ret := (some .int)) (by decide) rfl (Nat.le_of_ble_eq_true rfl) (lv := [(0, _), (1, _)]) rfl (by simp [Value.category]) ?_
  intro K X hL hG hr hnm
  subst hL; subst hG
  have hF : FrM am f f := FrM.rf
  refine V_aload_n X rfl dX6_matchState_0 ?_
  refine V_aload_n X rfl dX6_matchState_1 ?_
  refine V_iload_n X rfl dX6_matchState_2 ?_
  refine V_callVp X (rest := _) (c_X6_isMatch _ _ _ am sc ar hR _) hR.1 rfl gX6_matchState_X6_isMatch rfl hdv_X6_isMatch (Nat.le_of_ble_eq_true rfl) (Nat.le_of_ble_eq_true rfl) rfl (Nat.le_of_ble_eq_true rfl) dX6_matchState_3 ?_
  refine V.top (y := 0) (by rw [hm]; rfl) ?_
  refine V_if_eq X (tgt := 13) (by decide) dX6_matchState_6 (fun hc6 => ?_) (fun hc6 => absurd hc6 (by decide))
  refine V_iconst X (v := 1) (by decide) dX6_matchState_13 ?_
  refine V_callV (kc' := 0) (ks' := 0) X (rest := _) (c_X6_can _ _ _ am _ ar hR _) hR.1 rfl gX6_matchState_X6_can rfl hdv_X6_can (Nat.le_of_ble_eq_true rfl) (Nat.le_of_ble_eq_true rfl) rfl (Nat.le_of_ble_eq_true rfl) (by omega) (by omega) dX6_matchState_14 (fun r f1 hq => ?_)
  obtain ⟨rfl, hR, hF1⟩ := hq
  have hF := hF.trans hF1
  refine V.top (y := 0) (by decide) ?_
  refine V_if_eq X (tgt := 29) (by decide) dX6_matchState_17 (fun hc17 => ?_) (fun hc17 => absurd hc17 (by decide))
  refine V_iconst X (v := 0) (by decide) dX6_matchState_29 ?_
  exact V_iret X hr (⟨rfl, hR, hF⟩) dX6_matchState_30
theorem hinX6_matchState_X6 : ∀ w ∈ wsX60, w ∈ wsX6_matchState := by decide +kernel
set_option maxHeartbeats 4000000 in
set_option maxRecDepth 100000 in
theorem c_X6_matchState_0 (l : Launch) (G : GG) (f : Wo) (am : Nat → Nat) (sc : Nat → Int32) (ar : Nat → Nat → Int32) (hR : RM G am sc ar f) (k : Nat) (hk : k < 600) (hm : inI (nI k) 0 (sc 2 - 1) = true) : Ct l yX6_matchState wsX6_matchState 3 87 G [.ref (am 0), .int (nI k)] f (fun v9 f' => v9 = some (.int (ar 15 k)) ∧ RM G am (va_up sc 7 0) (ar) f' ∧ FrM am f f') 0 0 := by
  refine Ct.of (cc := cX6_matchState) (maxL := 2) (ret := (some .int)) (by decide) rfl (Nat.le_of_ble_eq_true rfl) (lv := [(0, _), (1, _)]) rfl (by simp [Value.category]) ?_
  intro K X hL hG hr hnm
  subst hL; subst hG
  have hF : FrM am f f := FrM.rf
  refine V_aload_n X rfl dX6_matchState_0 ?_
  refine V_aload_n X rfl dX6_matchState_1 ?_
  refine V_iload_n X rfl dX6_matchState_2 ?_
  refine V_callVp X (rest := _) (c_X6_isMatch _ _ _ am sc ar hR _) hR.1 rfl gX6_matchState_X6_isMatch rfl hdv_X6_isMatch (Nat.le_of_ble_eq_true rfl) (Nat.le_of_ble_eq_true rfl) rfl (Nat.le_of_ble_eq_true rfl) dX6_matchState_3 ?_
  refine V.top (y := 1) (by rw [hm]; rfl) ?_
  refine V_if_eq X (tgt := 13) (by decide) dX6_matchState_6 (fun hc6 => absurd hc6 (by decide)) (fun hc6 => ?_)
  refine V_iconst X (v := 0) (by decide) dX6_matchState_9 ?_
  refine V_goto X (tgt := 14) (by decide) dX6_matchState_10 ?_
  refine V_callV (kc' := 0) (ks' := 0) X (rest := _) (c_X6_can _ _ _ am _ ar hR _) hR.1 rfl gX6_matchState_X6_can rfl hdv_X6_can (Nat.le_of_ble_eq_true rfl) (Nat.le_of_ble_eq_true rfl) rfl (Nat.le_of_ble_eq_true rfl) (by omega) (by omega) dX6_matchState_14 (fun r f1 hq => ?_)
  obtain ⟨rfl, hR, hF1⟩ := hq
  have hF := hF.trans hF1
  refine V.top (y := 1) (by decide) ?_
  refine V_if_eq X (tgt := 29) (by decide) dX6_matchState_17 (fun hc17 => absurd hc17 (by decide)) (fun hc17 => ?_)
  refine V_aload_n X rfl dX6_matchState_20 ?_
  refine V_mget X hR (v := .ref (am 15)) 17 (by decide) hinX6_matchState_X6 (rfl) (by decide +kernel) rfl dX6_matchState_21 ?_
  refine V_iload_n X rfl dX6_matchState_24 ?_
  refine V_mald X hR 15 (k) 600 (by decide) rfl (by omega) (by decide) rfl dX6_matchState_25 ?_
  refine V_goto X (tgt := 30) (by decide) dX6_matchState_26 ?_
  exact V_iret X hr (⟨rfl, hR, hF⟩) dX6_matchState_30
set_option maxHeartbeats 4000000 in
set_option maxRecDepth 100000 in
theorem c_X6_unevenness_1 (l : Launch) (G : GG) (f : Wo) (am : Nat → Nat) (sc : Nat → Int32) (ar : Nat → Nat → Int32) (hR : RM G am sc ar f) (m : Int32) (hm : inI m 0 (sc 2 - 1) = false) : Ct l yX6_unevenness wsX6_unevenness 3 87 G [.ref (am 0), .int m] f (fun v9 f' => v9 = some (.int 0) ∧ RM G am (va_up sc 7 1) (ar) f' ∧ FrM am f f') 0 0 := by
  refine Ct.of (cc := cX6_unevenness) (maxL := 2) (ret := (some .int)) (by decide) rfl (Nat.le_of_ble_eq_true rfl) (lv := [(0, _), (1, _)]) rfl (by simp [Value.category]) ?_
  intro K X hL hG hr hnm
  subst hL; subst hG
  have hF : FrM am f f := FrM.rf
  refine V_aload_n X rfl dX6_unevenness_0 ?_
  refine V_aload_n X rfl dX6_unevenness_1 ?_
  refine V_iload_n X rfl dX6_unevenness_2 ?_
  refine V_callVp X (rest := _) (c_X6_isMatch _ _ _ am sc ar hR _) hR.1 rfl gX6_unevenness_X6_isMatch rfl hdv_X6_isMatch (Nat.le_of_ble_eq_true rfl) (Nat.le_of_ble_eq_true rfl) rfl (Nat.le_of_ble_eq_true rfl) dX6_unevenness_3 ?_
  refine V.top (y := 0) (by rw [hm]; rfl) ?_
  refine V_if_eq X (tgt := 13) (by decide) dX6_unevenness_6 (fun hc6 => ?_) (fun hc6 => absurd hc6 (by decide))
  refine V_iconst X (v := 1) (by decide) dX6_unevenness_13 ?_
  refine V_callV (kc' := 0) (ks' := 0) X (rest := _) (c_X6_can _ _ _ am _ ar hR _) hR.1 rfl gX6_unevenness_X6_can rfl hdv_X6_can (Nat.le_of_ble_eq_true rfl) (Nat.le_of_ble_eq_true rfl) rfl (Nat.le_of_ble_eq_true rfl) (by omega) (by omega) dX6_unevenness_14 (fun r f1 hq => ?_)
  obtain ⟨rfl, hR, hF1⟩ := hq
  have hF := hF.trans hF1
  refine V.top (y := 0) (by decide) ?_
  refine V_if_eq X (tgt := 29) (by decide) dX6_unevenness_17 (fun hc17 => ?_) (fun hc17 => absurd hc17 (by decide))
  refine V_iconst X (v := 0) (by decide) dX6_unevenness_29 ?_
  exact V_iret X hr (⟨rfl, hR, hF⟩) dX6_unevenness_30
theorem hinX6_unevenness_X6 : ∀ w ∈ wsX60, w ∈ wsX6_unevenness := by decide +kernel
set_option maxHeartbeats 4000000 in
set_option maxRecDepth 100000 in
theorem c_X6_unevenness_0 (l : Launch) (G : GG) (f : Wo) (am : Nat → Nat) (sc : Nat → Int32) (ar : Nat → Nat → Int32) (hR : RM G am sc ar f) (k : Nat) (hk : k < 600) (hm : inI (nI k) 0 (sc 2 - 1) = true) : Ct l yX6_unevenness wsX6_unevenness 3 87 G [.ref (am 0), .int (nI k)] f (fun v9 f' => v9 = some (.int (ar 12 k)) ∧ RM G am (va_up sc 7 0) (ar) f' ∧ FrM am f f') 0 0 := by
  refine Ct.of (cc := cX6_unevenness) (maxL := 2) (ret := (some .int)) (by decide) rfl (Nat.le_of_ble_eq_true rfl) (lv := [(0, _), (1, _)]) rfl (by simp [Value.category]) ?_
  intro K X hL hG hr hnm
  subst hL; subst hG
  have hF : FrM am f f := FrM.rf
  refine V_aload_n X rfl dX6_unevenness_0 ?_
  refine V_aload_n X rfl dX6_unevenness_1 ?_
  refine V_iload_n X rfl dX6_unevenness_2 ?_
  refine V_callVp X (rest := _) (c_X6_isMatch _ _ _ am sc ar hR _) hR.1 rfl gX6_unevenness_X6_isMatch rfl hdv_X6_isMatch (Nat.le_of_ble_eq_true rfl) (Nat.le_of_ble_eq_true rfl) rfl (Nat.le_of_ble_eq_true rfl) dX6_unevenness_3 ?_
  refine V.top (y := 1) (by rw [hm]; rfl) ?_
  refine V_if_eq X (tgt := 13) (by decide) dX6_unevenness_6 (fun hc6 => absurd hc6 (by decide)) (fun hc6 => ?_)
  refine V_iconst X (v := 0) (by decide) dX6_unevenness_9 ?_
  refine V_goto X (tgt := 14) (by decide) dX6_unevenness_10 ?_
  refine V_callV (kc' := 0) (ks' := 0) X (rest := _) (c_X6_can _ _ _ am _ ar hR _) hR.1 rfl gX6_unevenness_X6_can rfl hdv_X6_can (Nat.le_of_ble_eq_true rfl) (Nat.le_of_ble_eq_true rfl) rfl (Nat.le_of_ble_eq_true rfl) (by omega) (by omega) dX6_unevenness_14 (fun r f1 hq => ?_)
  obtain ⟨rfl, hR, hF1⟩ := hq
  have hF := hF.trans hF1
  refine V.top (y := 1) (by decide) ?_
  refine V_if_eq X (tgt := 29) (by decide) dX6_unevenness_17 (fun hc17 => absurd hc17 (by decide)) (fun hc17 => ?_)
  refine V_aload_n X rfl dX6_unevenness_20 ?_
  refine V_mget X hR (v := .ref (am 12)) 14 (by decide) hinX6_unevenness_X6 (rfl) (by decide +kernel) rfl dX6_unevenness_21 ?_
  refine V_iload_n X rfl dX6_unevenness_24 ?_
  refine V_mald X hR 12 (k) 600 (by decide) rfl (by omega) (by decide) rfl dX6_unevenness_25 ?_
  refine V_goto X (tgt := 30) (by decide) dX6_unevenness_26 ?_
  exact V_iret X hr (⟨rfl, hR, hF⟩) dX6_unevenness_30
set_option maxHeartbeats 4000000 in
set_option maxRecDepth 100000 in
theorem c_X6_team_1 (l : Launch) (G : GG) (f : Wo) (am : Nat → Nat) (sc : Nat → Int32) (ar : Nat → Nat → Int32) (hR : RM G am sc ar f) (m t : Int32) (hm : inI m 0 (sc 2 - 1) = false) : Ct l yX6_team wsX6_team 3 87 G [.ref (am 0), .int m, .int t] f (fun v9 f' => v9 = some (.int 0) ∧ RM G am (va_up sc 7 1) (ar) f' ∧ FrM am f f') 0 0 := by
  refine Ct.of (cc := cX6_team) (maxL := 3) (ret := (some .int)) (by decide) rfl (Nat.le_of_ble_eq_true rfl) (lv := [(0, _), (1, _), (2, _)]) rfl (by simp [Value.category]) ?_
  intro K X hL hG hr hnm
  subst hL; subst hG
  have hF : FrM am f f := FrM.rf
  refine V_aload_n X rfl dX6_team_0 ?_
  refine V_aload_n X rfl dX6_team_1 ?_
  refine V_iload_n X rfl dX6_team_2 ?_
  refine V_callVp X (rest := _) (c_X6_isMatch _ _ _ am sc ar hR _) hR.1 rfl gX6_team_X6_isMatch rfl hdv_X6_isMatch (Nat.le_of_ble_eq_true rfl) (Nat.le_of_ble_eq_true rfl) rfl (Nat.le_of_ble_eq_true rfl) dX6_team_3 ?_
  refine V.top (y := 0) (by rw [hm]; rfl) ?_
  refine V_if_ne X (tgt := 13) (by decide) dX6_team_6 (fun hc6 => absurd hc6 (by decide)) (fun hc6 => ?_)
  refine V_iconst X (v := 1) (by decide) dX6_team_9 ?_
  refine V_goto X (tgt := 27) (by decide) dX6_team_10 ?_
  refine V_callV (kc' := 0) (ks' := 0) X (rest := _) (c_X6_can _ _ _ am _ ar hR _) hR.1 rfl gX6_team_X6_can rfl hdv_X6_can (Nat.le_of_ble_eq_true rfl) (Nat.le_of_ble_eq_true rfl) rfl (Nat.le_of_ble_eq_true rfl) (by omega) (by omega) dX6_team_27 (fun r f1 hq => ?_)
  obtain ⟨rfl, hR, hF1⟩ := hq
  have hF := hF.trans hF1
  refine V.top (y := 0) (by decide) ?_
  refine V_if_eq X (tgt := 46) (by decide) dX6_team_30 (fun hc30 => ?_) (fun hc30 => absurd hc30 (by decide))
  refine V_iconst X (v := 0) (by decide) dX6_team_46 ?_
  exact V_iret X hr (⟨rfl, hR, hF⟩) dX6_team_47
set_option maxHeartbeats 4000000 in
set_option maxRecDepth 100000 in
theorem c_X6_team_2 (l : Launch) (G : GG) (f : Wo) (am : Nat → Nat) (sc : Nat → Int32) (ar : Nat → Nat → Int32) (hR : RM G am sc ar f) (m t : Int32) (hm : inI m 0 (sc 2 - 1) = true) (ht : inI t 0 1 = false) : Ct l yX6_team wsX6_team 3 87 G [.ref (am 0), .int m, .int t] f (fun v9 f' => v9 = some (.int 0) ∧ RM G am (va_up sc 7 2) (ar) f' ∧ FrM am f f') 0 0 := by
  refine Ct.of (cc := cX6_team) (maxL := 3) (ret := (some .int)) (by decide) rfl (Nat.le_of_ble_eq_true rfl) (lv := [(0, _), (1, _), (2, _)]) rfl (by simp [Value.category]) ?_
  intro K X hL hG hr hnm
  subst hL; subst hG
  have hF : FrM am f f := FrM.rf
  refine V_aload_n X rfl dX6_team_0 ?_
  refine V_aload_n X rfl dX6_team_1 ?_
  refine V_iload_n X rfl dX6_team_2 ?_
  refine V_callVp X (rest := _) (c_X6_isMatch _ _ _ am sc ar hR _) hR.1 rfl gX6_team_X6_isMatch rfl hdv_X6_isMatch (Nat.le_of_ble_eq_true rfl) (Nat.le_of_ble_eq_true rfl) rfl (Nat.le_of_ble_eq_true rfl) dX6_team_3 ?_
  refine V.top (y := 1) (by rw [hm]; rfl) ?_
  refine V_if_ne X (tgt := 13) (by decide) dX6_team_6 (fun hc6 => ?_) (fun hc6 => absurd hc6 (by decide))
  refine V_iload_n X rfl dX6_team_13 ?_
  refine V_iconst X (v := 0) (by decide) dX6_team_14 ?_
  refine V_iconst X (v := 1) (by decide) dX6_team_15 ?_
  refine V_callSp X (rest := _) (c_X6_isIn _ _ _ _ _ _) gX6_team_X6_isIn rfl hds_X6_isIn (Nat.le_of_ble_eq_true rfl) (Nat.le_of_ble_eq_true rfl) rfl (Nat.le_of_ble_eq_true rfl) dX6_team_16 ?_
  refine V.top (y := 0) (by rw [ht]; rfl) ?_
  refine V_if_eq X (tgt := 26) (by decide) dX6_team_19 (fun hc19 => ?_) (fun hc19 => absurd hc19 (by decide))
  refine V_iconst X (v := 2) (by decide) dX6_team_26 ?_
  refine V_callV (kc' := 0) (ks' := 0) X (rest := _) (c_X6_can _ _ _ am _ ar hR _) hR.1 rfl gX6_team_X6_can rfl hdv_X6_can (Nat.le_of_ble_eq_true rfl) (Nat.le_of_ble_eq_true rfl) rfl (Nat.le_of_ble_eq_true rfl) (by omega) (by omega) dX6_team_27 (fun r f1 hq => ?_)
  obtain ⟨rfl, hR, hF1⟩ := hq
  have hF := hF.trans hF1
  refine V.top (y := 0) (by decide) ?_
  refine V_if_eq X (tgt := 46) (by decide) dX6_team_30 (fun hc30 => ?_) (fun hc30 => absurd hc30 (by decide))
  refine V_iconst X (v := 0) (by decide) dX6_team_46 ?_
  exact V_iret X hr (⟨rfl, hR, hF⟩) dX6_team_47
theorem hinX6_team_X6 : ∀ w ∈ wsX60, w ∈ wsX6_team := by decide +kernel
set_option maxHeartbeats 4000000 in
set_option maxRecDepth 100000 in
theorem c_X6_team_0 (l : Launch) (G : GG) (f : Wo) (am : Nat → Nat) (sc : Nat → Int32) (ar : Nat → Nat → Int32) (hR : RM G am sc ar f) (k : Nat) (hk : k < 600) (hm : inI (nI k) 0 (sc 2 - 1) = true) (t : Nat) (ht2 : t < 2) (ht : inI (nI t) 0 1 = true) : Ct l yX6_team wsX6_team 3 87 G [.ref (am 0), .int (nI k), .int (nI t)] f (fun v9 f' => v9 = some (.int (ar 11 (2 * k + t))) ∧ RM G am (va_up sc 7 0) (ar) f' ∧ FrM am f f') 0 0 := by
  refine Ct.of (cc := cX6_team) (maxL := 3) (ret := (some .int)) (by decide) rfl (Nat.le_of_ble_eq_true rfl) (lv := [(0, _), (1, _), (2, _)]) rfl (by simp [Value.category]) ?_
  intro K X hL hG hr hnm
  subst hL; subst hG
  have hF : FrM am f f := FrM.rf
  refine V_aload_n X rfl dX6_team_0 ?_
  refine V_aload_n X rfl dX6_team_1 ?_
  refine V_iload_n X rfl dX6_team_2 ?_
  refine V_callVp X (rest := _) (c_X6_isMatch _ _ _ am sc ar hR _) hR.1 rfl gX6_team_X6_isMatch rfl hdv_X6_isMatch (Nat.le_of_ble_eq_true rfl) (Nat.le_of_ble_eq_true rfl) rfl (Nat.le_of_ble_eq_true rfl) dX6_team_3 ?_
  refine V.top (y := 1) (by rw [hm]; rfl) ?_
  refine V_if_ne X (tgt := 13) (by decide) dX6_team_6 (fun hc6 => ?_) (fun hc6 => absurd hc6 (by decide))
  refine V_iload_n X rfl dX6_team_13 ?_
  refine V_iconst X (v := 0) (by decide) dX6_team_14 ?_
  refine V_iconst X (v := 1) (by decide) dX6_team_15 ?_
  refine V_callSp X (rest := _) (c_X6_isIn _ _ _ _ _ _) gX6_team_X6_isIn rfl hds_X6_isIn (Nat.le_of_ble_eq_true rfl) (Nat.le_of_ble_eq_true rfl) rfl (Nat.le_of_ble_eq_true rfl) dX6_team_16 ?_
  refine V.top (y := 1) (by rw [ht]; rfl) ?_
  refine V_if_eq X (tgt := 26) (by decide) dX6_team_19 (fun hc19 => absurd hc19 (by decide)) (fun hc19 => ?_)
  refine V_iconst X (v := 0) (by decide) dX6_team_22 ?_
  refine V_goto X (tgt := 27) (by decide) dX6_team_23 ?_
  refine V_callV (kc' := 0) (ks' := 0) X (rest := _) (c_X6_can _ _ _ am _ ar hR _) hR.1 rfl gX6_team_X6_can rfl hdv_X6_can (Nat.le_of_ble_eq_true rfl) (Nat.le_of_ble_eq_true rfl) rfl (Nat.le_of_ble_eq_true rfl) (by omega) (by omega) dX6_team_27 (fun r f1 hq => ?_)
  obtain ⟨rfl, hR, hF1⟩ := hq
  have hF := hF.trans hF1
  refine V.top (y := 1) (by decide) ?_
  refine V_if_eq X (tgt := 46) (by decide) dX6_team_30 (fun hc30 => absurd hc30 (by decide)) (fun hc30 => ?_)
  refine V_aload_n X rfl dX6_team_33 ?_
  refine V_mget X hR (v := .ref (am 11)) 13 (by decide) hinX6_team_X6 (rfl) (by decide +kernel) rfl dX6_team_34 ?_
  refine V_iconst X (v := 2) (by decide) dX6_team_37 ?_
  refine V_iload_n X rfl dX6_team_38 ?_
  refine V_imul X dX6_team_39 ?_
  refine V.top (y := nI (2 * k)) (nI_2m k) ?_
  refine V_iload_n X rfl dX6_team_40 ?_
  refine V_iadd X dX6_team_41 ?_
  refine V.top (y := nI (2 * k + t)) (nI_add _ _) ?_
  refine V_mald X hR 11 (2 * k + t) 1200 (by decide) rfl (by omega) (by decide) rfl dX6_team_42 ?_
  refine V_goto X (tgt := 47) (by decide) dX6_team_43 ?_
  exact V_iret X hr (⟨rfl, hR, hF⟩) dX6_team_47
set_option maxHeartbeats 4000000 in
set_option maxRecDepth 100000 in
theorem c_X6_addPlayer_1a (l : Launch) (G : GG) (f : Wo) (am : Nat → Nat) (sc : Nat → Int32) (ar : Nat → Nat → Int32) (hR : RM G am sc ar f) (a b : Int32) (h1 : inI a 0 4000 = false) : Ct l yX6_addPlayer wsX6_addPlayer 2 66 G [.ref (am 0), .int a, .int b] f (fun v9 f' => v9 = some (.int 0) ∧ RM G am (va_up sc 7 1) (ar) f' ∧ FrM am f f') 0 0 := by
  refine Ct.of (cc := cX6_addPlayer) (maxL := 3) (ret := (some .int)) (by decide) rfl (Nat.le_of_ble_eq_true rfl) (lv := [(0, _), (1, _), (2, _)]) rfl (by simp [Value.category]) ?_
  intro K X hL hG hr hnm
  subst hL; subst hG
  have hF : FrM am f f := FrM.rf
  refine V_aload_n X rfl dX6_addPlayer_0 ?_
  refine V_iload_n X rfl dX6_addPlayer_1 ?_
  refine V_iconst X (v := 0) (by decide) dX6_addPlayer_2 ?_
  refine V_sipush X (v := 4000) (by decide) dX6_addPlayer_3 ?_
  refine V_callSp X (rest := _) (c_X6_isIn _ _ _ _ _ _) gX6_addPlayer_X6_isIn rfl hds_X6_isIn (Nat.le_of_ble_eq_true rfl) (Nat.le_of_ble_eq_true rfl) rfl (Nat.le_of_ble_eq_true rfl) dX6_addPlayer_6 ?_
  refine V.top (y := 0) (by rw [h1]; rfl) ?_
  refine V_if_eq X (tgt := 22) (by decide) dX6_addPlayer_9 (fun hc9 => ?_) (fun hc9 => absurd hc9 (by decide))
  refine V_iconst X (v := 1) (by decide) dX6_addPlayer_22 ?_
  refine V_goto X (tgt := 40) (by decide) dX6_addPlayer_23 ?_
  refine V_callV (kc' := 0) (ks' := 0) X (rest := _) (c_X6_can _ _ _ am _ ar hR _) hR.1 rfl gX6_addPlayer_X6_can rfl hdv_X6_can (Nat.le_of_ble_eq_true rfl) (Nat.le_of_ble_eq_true rfl) rfl (Nat.le_of_ble_eq_true rfl) (by omega) (by omega) dX6_addPlayer_40 (fun r f1 hq => ?_)
  obtain ⟨rfl, hR, hF1⟩ := hq
  have hF := hF.trans hF1
  refine V.top (y := 0) (by decide) ?_
  refine V_if_ne X (tgt := 48) (by decide) dX6_addPlayer_43 (fun hc43 => absurd hc43 (by decide)) (fun hc43 => ?_)
  refine V_iconst X (v := 0) (by decide) dX6_addPlayer_46 ?_
  exact V_iret X hr (⟨rfl, hR, hF⟩) dX6_addPlayer_47
set_option maxHeartbeats 4000000 in
set_option maxRecDepth 100000 in
theorem c_X6_addPlayer_1b (l : Launch) (G : GG) (f : Wo) (am : Nat → Nat) (sc : Nat → Int32) (ar : Nat → Nat → Int32) (hR : RM G am sc ar f) (a b : Int32) (h1 : inI a 0 4000 = true) (h2 : inI b 1 7 = false) : Ct l yX6_addPlayer wsX6_addPlayer 2 66 G [.ref (am 0), .int a, .int b] f (fun v9 f' => v9 = some (.int 0) ∧ RM G am (va_up sc 7 1) (ar) f' ∧ FrM am f f') 0 0 := by
  refine Ct.of (cc := cX6_addPlayer) (maxL := 3) (ret := (some .int)) (by decide) rfl (Nat.le_of_ble_eq_true rfl) (lv := [(0, _), (1, _), (2, _)]) rfl (by simp [Value.category]) ?_
  intro K X hL hG hr hnm
  subst hL; subst hG
  have hF : FrM am f f := FrM.rf
  refine V_aload_n X rfl dX6_addPlayer_0 ?_
  refine V_iload_n X rfl dX6_addPlayer_1 ?_
  refine V_iconst X (v := 0) (by decide) dX6_addPlayer_2 ?_
  refine V_sipush X (v := 4000) (by decide) dX6_addPlayer_3 ?_
  refine V_callSp X (rest := _) (c_X6_isIn _ _ _ _ _ _) gX6_addPlayer_X6_isIn rfl hds_X6_isIn (Nat.le_of_ble_eq_true rfl) (Nat.le_of_ble_eq_true rfl) rfl (Nat.le_of_ble_eq_true rfl) dX6_addPlayer_6 ?_
  refine V.top (y := 1) (by rw [h1]; rfl) ?_
  refine V_if_eq X (tgt := 22) (by decide) dX6_addPlayer_9 (fun hc9 => absurd hc9 (by decide)) (fun hc9 => ?_)
  refine V_iload_n X rfl dX6_addPlayer_12 ?_
  refine V_iconst X (v := 1) (by decide) dX6_addPlayer_13 ?_
  refine V_bipush X (v := 7) (by decide) dX6_addPlayer_14 ?_
  refine V_callSp X (rest := _) (c_X6_isIn _ _ _ _ _ _) gX6_addPlayer_X6_isIn rfl hds_X6_isIn (Nat.le_of_ble_eq_true rfl) (Nat.le_of_ble_eq_true rfl) rfl (Nat.le_of_ble_eq_true rfl) dX6_addPlayer_16 ?_
  refine V.top (y := 0) (by rw [h2]; rfl) ?_
  refine V_if_ne X (tgt := 26) (by decide) dX6_addPlayer_19 (fun hc19 => absurd hc19 (by decide)) (fun hc19 => ?_)
  refine V_iconst X (v := 1) (by decide) dX6_addPlayer_22 ?_
  refine V_goto X (tgt := 40) (by decide) dX6_addPlayer_23 ?_
  refine V_callV (kc' := 0) (ks' := 0) X (rest := _) (c_X6_can _ _ _ am _ ar hR _) hR.1 rfl gX6_addPlayer_X6_can rfl hdv_X6_can (Nat.le_of_ble_eq_true rfl) (Nat.le_of_ble_eq_true rfl) rfl (Nat.le_of_ble_eq_true rfl) (by omega) (by omega) dX6_addPlayer_40 (fun r f1 hq => ?_)
  obtain ⟨rfl, hR, hF1⟩ := hq
  have hF := hF.trans hF1
  refine V.top (y := 0) (by decide) ?_
  refine V_if_ne X (tgt := 48) (by decide) dX6_addPlayer_43 (fun hc43 => absurd hc43 (by decide)) (fun hc43 => ?_)
  refine V_iconst X (v := 0) (by decide) dX6_addPlayer_46 ?_
  exact V_iret X hr (⟨rfl, hR, hF⟩) dX6_addPlayer_47
theorem hinX6_addPlayer_X6 : ∀ w ∈ wsX60, w ∈ wsX6_addPlayer := by decide +kernel
set_option maxHeartbeats 4000000 in
set_option maxRecDepth 100000 in
theorem c_X6_addPlayer_2 (l : Launch) (G : GG) (f : Wo) (am : Nat → Nat) (sc : Nat → Int32) (ar : Nat → Nat → Int32) (hR : RM G am sc ar f) (a b : Int32) (h1 : inI a 0 4000 = true) (h2 : inI b 1 7 = true) (h3 : sc 0 = 18) : Ct l yX6_addPlayer wsX6_addPlayer 2 66 G [.ref (am 0), .int a, .int b] f (fun v9 f' => v9 = some (.int 0) ∧ RM G am (va_up sc 7 2) (ar) f' ∧ FrM am f f') 0 0 := by
  refine Ct.of (cc := cX6_addPlayer) (maxL := 3) (ret := (some .int)) (by decide) rfl (Nat.le_of_ble_eq_true rfl) (lv := [(0, _), (1, _), (2, _)]) rfl (by simp [Value.category]) ?_
  intro K X hL hG hr hnm
  subst hL; subst hG
  have hF : FrM am f f := FrM.rf
  refine V_aload_n X rfl dX6_addPlayer_0 ?_
  refine V_iload_n X rfl dX6_addPlayer_1 ?_
  refine V_iconst X (v := 0) (by decide) dX6_addPlayer_2 ?_
  refine V_sipush X (v := 4000) (by decide) dX6_addPlayer_3 ?_
  refine V_callSp X (rest := _) (c_X6_isIn _ _ _ _ _ _) gX6_addPlayer_X6_isIn rfl hds_X6_isIn (Nat.le_of_ble_eq_true rfl) (Nat.le_of_ble_eq_true rfl) rfl (Nat.le_of_ble_eq_true rfl) dX6_addPlayer_6 ?_
  refine V.top (y := 1) (by rw [h1]; rfl) ?_
  refine V_if_eq X (tgt := 22) (by decide) dX6_addPlayer_9 (fun hc9 => absurd hc9 (by decide)) (fun hc9 => ?_)
  refine V_iload_n X rfl dX6_addPlayer_12 ?_
  refine V_iconst X (v := 1) (by decide) dX6_addPlayer_13 ?_
  refine V_bipush X (v := 7) (by decide) dX6_addPlayer_14 ?_
  refine V_callSp X (rest := _) (c_X6_isIn _ _ _ _ _ _) gX6_addPlayer_X6_isIn rfl hds_X6_isIn (Nat.le_of_ble_eq_true rfl) (Nat.le_of_ble_eq_true rfl) rfl (Nat.le_of_ble_eq_true rfl) dX6_addPlayer_16 ?_
  refine V.top (y := 1) (by rw [h2]; rfl) ?_
  refine V_if_ne X (tgt := 26) (by decide) dX6_addPlayer_19 (fun hc19 => ?_) (fun hc19 => absurd hc19 (by decide))
  refine V_aload_n X rfl dX6_addPlayer_26 ?_
  refine V_mget X hR (v := .int (18)) 0 (by decide) hinX6_addPlayer_X6 (congrArg (fun z => some (Value.int z)) (h3)) (by decide +kernel) rfl dX6_addPlayer_27 ?_
  refine V_bipush X (v := 18) (by decide) dX6_addPlayer_30 ?_
  refine V_icmp_ne X (tgt := 39) (by decide) dX6_addPlayer_32 (fun hc32 => absurd hc32 (by decide)) (fun hc32 => ?_)
  refine V_iconst X (v := 2) (by decide) dX6_addPlayer_35 ?_
  refine V_goto X (tgt := 40) (by decide) dX6_addPlayer_36 ?_
  refine V_callV (kc' := 0) (ks' := 0) X (rest := _) (c_X6_can _ _ _ am _ ar hR _) hR.1 rfl gX6_addPlayer_X6_can rfl hdv_X6_can (Nat.le_of_ble_eq_true rfl) (Nat.le_of_ble_eq_true rfl) rfl (Nat.le_of_ble_eq_true rfl) (by omega) (by omega) dX6_addPlayer_40 (fun r f1 hq => ?_)
  obtain ⟨rfl, hR, hF1⟩ := hq
  have hF := hF.trans hF1
  refine V.top (y := 0) (by decide) ?_
  refine V_if_ne X (tgt := 48) (by decide) dX6_addPlayer_43 (fun hc43 => absurd hc43 (by decide)) (fun hc43 => ?_)
  refine V_iconst X (v := 0) (by decide) dX6_addPlayer_46 ?_
  exact V_iret X hr (⟨rfl, hR, hF⟩) dX6_addPlayer_47
set_option maxHeartbeats 4000000 in
set_option maxRecDepth 100000 in
theorem c_X6_addPlayer_0 (l : Launch) (G : GG) (f : Wo) (am : Nat → Nat) (sc : Nat → Int32) (ar : Nat → Nat → Int32) (hR : RM G am sc ar f) (a b : Int32) (h1 : inI a 0 4000 = true) (h2 : inI b 1 7 = true) (np : Nat) (hnp : sc 0 = nI np) (hlt : np < 18) : Ct l yX6_addPlayer wsX6_addPlayer 2 66 G [.ref (am 0), .int a, .int b] f (fun v9 f' => v9 = some (.int (nI np)) ∧ RM G am (va_up (va_up sc 7 0) 0 (nI np + 1)) (va_up (va_up (va_up ar 1 (va_up (ar 1) np a)) 3 (va_up (ar 3) np b)) 2 (va_up (ar 2) np 350)) f' ∧ FrM am f f') 0 0 := by
  refine Ct.of (cc := cX6_addPlayer) (maxL := 3) (ret := (some .int)) (by decide) rfl (Nat.le_of_ble_eq_true rfl) (lv := [(0, _), (1, _), (2, _)]) rfl (by simp [Value.category]) ?_
  intro K X hL hG hr hnm
  subst hL; subst hG
  have hF : FrM am f f := FrM.rf
  refine V_aload_n X rfl dX6_addPlayer_0 ?_
  refine V_iload_n X rfl dX6_addPlayer_1 ?_
  refine V_iconst X (v := 0) (by decide) dX6_addPlayer_2 ?_
  refine V_sipush X (v := 4000) (by decide) dX6_addPlayer_3 ?_
  refine V_callSp X (rest := _) (c_X6_isIn _ _ _ _ _ _) gX6_addPlayer_X6_isIn rfl hds_X6_isIn (Nat.le_of_ble_eq_true rfl) (Nat.le_of_ble_eq_true rfl) rfl (Nat.le_of_ble_eq_true rfl) dX6_addPlayer_6 ?_
  refine V.top (y := 1) (by rw [h1]; rfl) ?_
  refine V_if_eq X (tgt := 22) (by decide) dX6_addPlayer_9 (fun hc9 => absurd hc9 (by decide)) (fun hc9 => ?_)
  refine V_iload_n X rfl dX6_addPlayer_12 ?_
  refine V_iconst X (v := 1) (by decide) dX6_addPlayer_13 ?_
  refine V_bipush X (v := 7) (by decide) dX6_addPlayer_14 ?_
  refine V_callSp X (rest := _) (c_X6_isIn _ _ _ _ _ _) gX6_addPlayer_X6_isIn rfl hds_X6_isIn (Nat.le_of_ble_eq_true rfl) (Nat.le_of_ble_eq_true rfl) rfl (Nat.le_of_ble_eq_true rfl) dX6_addPlayer_16 ?_
  refine V.top (y := 1) (by rw [h2]; rfl) ?_
  refine V_if_ne X (tgt := 26) (by decide) dX6_addPlayer_19 (fun hc19 => ?_) (fun hc19 => absurd hc19 (by decide))
  refine V_aload_n X rfl dX6_addPlayer_26 ?_
  refine V_mget X hR (v := .int (nI np)) 0 (by decide) hinX6_addPlayer_X6 (congrArg (fun z => some (Value.int z)) (hnp)) (by decide +kernel) rfl dX6_addPlayer_27 ?_
  refine V_bipush X (v := 18) (by decide) dX6_addPlayer_30 ?_
  refine V_icmp_ne X (tgt := 39) (by decide) dX6_addPlayer_32 (fun hc32 => ?_) (fun hc32 => absurd hc32 (fun h9 => absurd ((nI_eq (a := np) (b := 18) (by omega) (by decide)).mp h9) (by omega)))
  refine V_iconst X (v := 0) (by decide) dX6_addPlayer_39 ?_
  refine V_callV (kc' := 0) (ks' := 0) X (rest := _) (c_X6_can _ _ _ am _ ar hR _) hR.1 rfl gX6_addPlayer_X6_can rfl hdv_X6_can (Nat.le_of_ble_eq_true rfl) (Nat.le_of_ble_eq_true rfl) rfl (Nat.le_of_ble_eq_true rfl) (by omega) (by omega) dX6_addPlayer_40 (fun r f1 hq => ?_)
  obtain ⟨rfl, hR, hF1⟩ := hq
  have hF := hF.trans hF1
  refine V.top (y := 1) (by decide) ?_
  refine V_if_ne X (tgt := 48) (by decide) dX6_addPlayer_43 (fun hc43 => ?_) (fun hc43 => absurd hc43 (by decide))
  refine V_aload_n X rfl dX6_addPlayer_48 ?_
  refine V_mget X hR (v := .ref (am 1)) 1 (by decide) hinX6_addPlayer_X6 (rfl) (by decide +kernel) rfl dX6_addPlayer_49 ?_
  refine V_aload_n X rfl dX6_addPlayer_52 ?_
  refine V_mget X hR (v := .int (nI np)) 0 (by decide) hinX6_addPlayer_X6 (congrArg (fun z => some (Value.int z)) (hnp)) (by decide +kernel) rfl dX6_addPlayer_53 ?_
  refine V_iload_n X rfl dX6_addPlayer_56 ?_
  refine V_mast X hR hF 1 (np) 18 (by decide) rfl (by omega) (by decide) dX6_addPlayer_57 (fun f hR hF => ?_)
  refine V_aload_n X rfl dX6_addPlayer_58 ?_
  refine V_mget X hR (v := .ref (am 3)) 3 (by decide) hinX6_addPlayer_X6 (rfl) (by decide +kernel) rfl dX6_addPlayer_59 ?_
  refine V_aload_n X rfl dX6_addPlayer_62 ?_
  refine V_mget X hR (v := .int (nI np)) 0 (by decide) hinX6_addPlayer_X6 (congrArg (fun z => some (Value.int z)) (hnp)) (by decide +kernel) rfl dX6_addPlayer_63 ?_
  refine V_iload_n X rfl dX6_addPlayer_66 ?_
  refine V_mast X hR hF 3 (np) 18 (by decide) rfl (by omega) (by decide) dX6_addPlayer_67 (fun f hR hF => ?_)
  refine V_aload_n X rfl dX6_addPlayer_68 ?_
  refine V_mget X hR (v := .ref (am 2)) 2 (by decide) hinX6_addPlayer_X6 (rfl) (by decide +kernel) rfl dX6_addPlayer_69 ?_
  refine V_aload_n X rfl dX6_addPlayer_72 ?_
  refine V_mget X hR (v := .int (nI np)) 0 (by decide) hinX6_addPlayer_X6 (congrArg (fun z => some (Value.int z)) (hnp)) (by decide +kernel) rfl dX6_addPlayer_73 ?_
  refine V_sipush X (v := 350) (by decide) dX6_addPlayer_76 ?_
  refine V_mast X hR hF 2 (np) 18 (by decide) rfl (by omega) (by decide) dX6_addPlayer_79 (fun f hR hF => ?_)
  refine V_aload_n X rfl dX6_addPlayer_80 ?_
  refine V_dup X rfl dX6_addPlayer_81 ?_
  refine V_mget X hR (v := .int (nI np)) 0 (by decide) hinX6_addPlayer_X6 (congrArg (fun z => some (Value.int z)) (hnp)) (by decide +kernel) rfl dX6_addPlayer_82 ?_
  refine V_iconst X (v := 1) (by decide) dX6_addPlayer_85 ?_
  refine V_iadd X dX6_addPlayer_86 ?_
  refine V_mput X hR hF 0 0 (by decide) hinX6_addPlayer_X6 rfl (by decide +kernel) rfl rfl rfl dX6_addPlayer_87 (fun f hR hF => ?_)
  refine V_aload_n X rfl dX6_addPlayer_90 ?_
  refine V_mget X hR (v := .int (nI np + 1)) 0 (by decide) hinX6_addPlayer_X6 (congrArg (fun z => some (Value.int z)) (rfl)) (by decide +kernel) rfl dX6_addPlayer_91 ?_
  refine V_iconst X (v := 1) (by decide) dX6_addPlayer_94 ?_
  refine V_isub X dX6_addPlayer_95 ?_
  refine V.top (y := nI np) (by rw [nI_1]; exact nI_pred np) ?_
  exact V_iret X hr (⟨rfl, hR, hF⟩) dX6_addPlayer_96
def expA (np nt : Nat) (ck : Int32) (m : Nat) (ar : Nat → Nat → Int32) : Nat → Nat → Int32 := fun j => if j = 4 then ifF np (fun k => hsI (lateI (ar 11) (ar 14) m) (nI k)) (fun k => lvI (ar 4 k)) (ar 4) else if j = 6 then ifF np (fun k => hsI (lateI (ar 11) (ar 14) m) (nI k)) (fun k => ck + mtI (ar 4 k)) (ar 6) else endA np nt m (lateI (ar 11) (ar 14) m) ar j
theorem expA_of {np nt m : Nat} {ck : Int32} {ar ar' : Nat → Nat → Int32} (h4 : ar' 4 = ifF np (fun k => hsI (lateI (ar 11) (ar 14) m) (nI k)) (fun k => lvI (ar 4 k)) (ar 4)) (h6 : ar' 6 = ifF np (fun k => hsI (lateI (ar 11) (ar 14) m) (nI k)) (fun k => ck + mtI (ar 4 k)) (ar 6)) (hoth : ∀ j, j ≠ 4 → j ≠ 6 → ar' j = endA np nt m (lateI (ar 11) (ar 14) m) ar j) : ar' = expA np nt ck m ar := by
  funext j
  unfold expA
  by_cases e4 : j = 4
  · rw [if_pos e4, e4]; exact h4
  · rw [if_neg e4]
    by_cases e6 : j = 6
    · rw [if_pos e6, e6]; exact h6
    · rw [if_neg e6]; exact hoth j e4 e6
theorem hinX6_expires_X6 : ∀ w ∈ wsX60, w ∈ wsX6_expires := by decide +kernel
set_option maxHeartbeats 4000000 in
set_option maxRecDepth 100000 in
theorem c_X6_expires (l : Launch) (G : GG) (f : Wo) (am : Nat → Nat) (sc : Nat → Int32) (ar : Nat → Nat → Int32) (hR : RM G am sc ar f) (np : Nat) (hnp : sc 0 = nI np) (hp18 : np ≤ 18) (nt : Nat) (hnt : sc 1 = nI nt) (ht100 : nt ≤ 100) (k : Nat) (hk : k < 600) : Ct l yX6_expires wsX6_expires 4 111 G [.ref (am 0), .int (nI k)] f (fun v9 f' => v9 = none ∧ RM G am (sc) (expA np nt (sc 3) k ar) f' ∧ FrM am f f') 0 0 := by
  refine Ct.of (cc := cX6_expires) (maxL := 4) (ret := none) (by decide) rfl (Nat.le_of_ble_eq_true rfl) (lv := [(0, _), (1, _)]) rfl (by simp [Value.category]) ?_
  intro K X hL hG hr hnm
  subst hL; subst hG
  have hF : FrM am f f := FrM.rf
  have L : ∀ (n i : Nat), np - i = n → i ≤ np → ∀ (fw : Wo) (ar' : Nat → Nat → Int32), RM (kG K) am sc ar' fw → FrM am f fw → (ar' 4 = ifF i (fun k9 => hsI (lateI (ar 11) (ar 14) k) (nI k9)) (fun k => lvI (ar 4 k)) (ar 4) ∧ ar' 6 = ifF i (fun k9 => hsI (lateI (ar 11) (ar 14) k) (nI k9)) (fun k => sc 3 + mtI (ar 4 k)) (ar 6) ∧ ∀ j, j ≠ 4 → j ≠ 6 → ar' j = endA np nt k (lateI (ar 11) (ar 14) k) ar j) → V K fw 0 0 23 [(0, .ref (am 0)), (1, .int (nI k)), (2, .int (lateI (ar 11) (ar 14) k)), (3, .int (nI i))] [] := by
    intro n
    induction n using Nat.strongRecOn with
    | ind n ih =>
      intro i hn hi f ar' hR hF ⟨h4, h6, hoth⟩
      refine V_iload_n X rfl dX6_expires_23 ?_
      refine V_aload_n X rfl dX6_expires_24 ?_
      refine V_mget X hR (v := .int (nI np)) 0 (by decide) hinX6_expires_X6 (congrArg (fun z => some (Value.int z)) (hnp)) (by decide +kernel) rfl dX6_expires_25 ?_
      refine V_icmp_ge X (tgt := 51) (by decide) dX6_expires_28 (fun hc28 => ?_) (fun hc28 => ?_)
      · have hi18 := lim_ge (N := np) rfl hc28 hi (by omega)
        subst hi18
        exact V_vret X hr (⟨rfl, by rw [← expA_of h4 h6 hoth]; exact hR, hF⟩) dX6_expires_51
      · have hlt := lim_lt (N := np) rfl hc28 hi (by omega)
        refine V_iload_n X rfl dX6_expires_31 ?_
        refine V_iload_n X rfl dX6_expires_32 ?_
        refine V_callSp X (rest := _) (c_X6_has _ _ _ _ _) gX6_expires_X6_has rfl hds_X6_has (Nat.le_of_ble_eq_true rfl) (Nat.le_of_ble_eq_true rfl) rfl (Nat.le_of_ble_eq_true rfl) dX6_expires_33 ?_
        refine V_if_eq X (tgt := 45) (by decide) dX6_expires_36 (fun hc36 => ?_) (fun hc36 => ?_)
        · refine V_iinc X (lv' := [(3, _), (0, _), (1, _), (2, _)]) (v := nI (i + 1)) rfl (nI_1 _) (by decide) rfl dX6_expires_45 ?_
          refine V_goto X (tgt := 23) (by decide) dX6_expires_48 ?_
          refine V.lvs (lv' := [(0, _), (1, _), (2, _), (3, _)]) rfl ?_
          exact ih (np - (i + 1)) (by omega) (i + 1) rfl (by omega) _ ar' hR hF ⟨h4.trans (ifF_f (bI_eq0 hc36)), h6.trans (ifF_f (bI_eq0 hc36)), hoth⟩
        · refine V_aload_n X rfl dX6_expires_39 ?_
          refine V_iload_n X rfl dX6_expires_40 ?_
          refine V_callV (kc' := 0) (ks' := 0) X (rest := _) (c_X6_bars _ _ _ am _ _ hR i (by omega)) hR.1 rfl gX6_expires_X6_bars rfl hdv_X6_bars (Nat.le_of_ble_eq_true rfl) (Nat.le_of_ble_eq_true rfl) rfl (Nat.le_of_ble_eq_true rfl) (by omega) (by omega) dX6_expires_41 (fun r f1 hq => ?_)
          obtain ⟨rfl, hR, hF1⟩ := hq
          have hF := hF.trans hF1
          refine V_pop X rfl dX6_expires_44 ?_
          refine V_iinc X (lv' := [(3, _), (0, _), (1, _), (2, _)]) (v := nI (i + 1)) rfl (nI_1 _) (by decide) rfl dX6_expires_45 ?_
          refine V_goto X (tgt := 23) (by decide) dX6_expires_48 ?_
          refine V.lvs (lv' := [(0, _), (1, _), (2, _), (3, _)]) rfl ?_
          exact ih (np - (i + 1)) (by omega) (i + 1) rfl (by omega) _ _ hR hF ⟨by rw [va_up_ne _ _ (show (4 : Nat) ≠ 6 by decide), va_up_self, h4]; exact ifF_t (bI_ne0 hc36) (congrArg lvI ifF_i), by rw [va_up_self, h6, h4]; exact ifF_t (bI_ne0 hc36) (congrArg (fun z => sc 3 + mtI z) ifF_i), fun j a b => by rw [va_up_ne _ _ b, va_up_ne _ _ a]; exact hoth j a b⟩
  refine V_aload_n X rfl dX6_expires_0 ?_
  refine V_iload_n X rfl dX6_expires_1 ?_
  refine V_callVp X (rest := _) (c_X6_allOf _ _ _ am _ _ hR k (by omega)) hR.1 rfl gX6_expires_X6_allOf rfl hdv_X6_allOf (Nat.le_of_ble_eq_true rfl) (Nat.le_of_ble_eq_true rfl) rfl (Nat.le_of_ble_eq_true rfl) dX6_expires_2 ?_
  refine V_aload_n X rfl dX6_expires_5 ?_
  refine V_mget X hR (v := .ref (am 14)) 16 (by decide) hinX6_expires_X6 (rfl) (by decide +kernel) rfl dX6_expires_6 ?_
  refine V_iload_n X rfl dX6_expires_9 ?_
  refine V_mald X hR 14 (k) 600 (by decide) rfl (by omega) (by decide) rfl dX6_expires_10 ?_
  refine V_iconst X (v := (-1)) (by decide) dX6_expires_11 ?_
  refine V_ixor X dX6_expires_12 ?_
  refine V_iand X dX6_expires_13 ?_
  refine V_istore_n X (lv' := [(2, _), (0, _), (1, _)]) (by decide) rfl dX6_expires_14 ?_
  refine V_aload_n X rfl dX6_expires_15 ?_
  refine V_iload_n X rfl dX6_expires_16 ?_
  refine V_iload_n X rfl dX6_expires_17 ?_
  show V K f 0 0 18 _ [.int (lateI (ar 11) (ar 14) k), _, _]
  refine V_callV (kc' := 0) (ks' := 0) X (rest := _) (c_X6_ends _ _ _ am _ _ hR np hnp hp18 nt hnt ht100 k hk _) hR.1 rfl gX6_expires_X6_ends rfl hdv_X6_ends (Nat.le_of_ble_eq_true rfl) (Nat.le_of_ble_eq_true rfl) rfl (Nat.le_of_ble_eq_true rfl) (by omega) (by omega) dX6_expires_18 (fun r f1 hq => ?_)
  obtain ⟨rfl, hR, hF1⟩ := hq
  have hF := hF.trans hF1
  refine V_iconst X (v := 0) (by decide) dX6_expires_21 ?_
  refine V_istore_n X (lv' := [(3, _), (2, _), (0, _), (1, _)]) (by decide) rfl dX6_expires_22 ?_
  refine V.lvs (lv' := [(0, _), (1, _), (2, _), (3, _)]) rfl ?_
  exact L np 0 (by omega) (by omega) _ _ hR hF ⟨by rw [ifF_0]; rfl, by rw [ifF_0]; rfl, fun _ _ _ => rfl⟩
/-- one minute's look at the first i matches: arrays, and how many are off -/
def innA (np nt : Nat) (ck : Int32) : Nat → (Nat → Nat → Int32) × Int32 → (Nat → Nat → Int32) × Int32
  | 0, s => s
  | i + 1, s => if (innA np nt ck i s).1 15 i = 0 ∧ 3 ≤ ck - (innA np nt ck i s).1 13 i then (expA np nt ck i (innA np nt ck i s).1, (innA np nt ck i s).2 + 1) else innA np nt ck i s
theorem innA_f {np nt i : Nat} {ck : Int32} {s : (Nat → Nat → Int32) × Int32} (h : ¬ ((innA np nt ck i s).1 15 i = 0 ∧ 3 ≤ ck - (innA np nt ck i s).1 13 i)) : innA np nt ck (i + 1) s = innA np nt ck i s := if_neg h
theorem innA_t {np nt i : Nat} {ck : Int32} {s : (Nat → Nat → Int32) × Int32} (h : (innA np nt ck i s).1 15 i = 0 ∧ 3 ≤ ck - (innA np nt ck i s).1 13 i) : innA np nt ck (i + 1) s = (expA np nt ck i (innA np nt ck i s).1, (innA np nt ck i s).2 + 1) := if_pos h
def outA (np nt nm : Nat) (ck : Int32) (ar : Nat → Nat → Int32) : Nat → (Nat → Nat → Int32) × Int32
  | 0 => (ar, 0)
  | t + 1 => innA np nt (ck + nI (t + 1)) nm (outA np nt nm ck ar t)
set_option maxHeartbeats 4000000 in
set_option maxRecDepth 100000 in
theorem c_X6_pass_1 (l : Launch) (G : GG) (f : Wo) (am : Nat → Nat) (sc : Nat → Int32) (ar : Nat → Nat → Int32) (hR : RM G am sc ar f) (mi : Int32) (h1 : inI mi 1 1000 = false) : Ct l yX6_pass wsX6_pass 5 134 G [.ref (am 0), .int mi] f (fun v9 f' => v9 = some (.int 0) ∧ RM G am (va_up sc 7 1) (ar) f' ∧ FrM am f f') 0 0 := by
  refine Ct.of (cc := cX6_pass) (maxL := 5) (ret := (some .int)) (by decide) rfl (Nat.le_of_ble_eq_true rfl) (lv := [(0, _), (1, _)]) rfl (by simp [Value.category]) ?_
  intro K X hL hG hr hnm
  subst hL; subst hG
  have hF : FrM am f f := FrM.rf
  refine V_aload_n X rfl dX6_pass_0 ?_
  refine V_iload_n X rfl dX6_pass_1 ?_
  refine V_iconst X (v := 1) (by decide) dX6_pass_2 ?_
  refine V_sipush X (v := 1000) (by decide) dX6_pass_3 ?_
  refine V_callSp X (rest := _) (c_X6_isIn _ _ _ _ _ _) gX6_pass_X6_isIn rfl hds_X6_isIn (Nat.le_of_ble_eq_true rfl) (Nat.le_of_ble_eq_true rfl) rfl (Nat.le_of_ble_eq_true rfl) dX6_pass_6 ?_
  refine V.top (y := 0) (by rw [h1]; rfl) ?_
  refine V_if_ne X (tgt := 16) (by decide) dX6_pass_9 (fun hc9 => absurd hc9 (by decide)) (fun hc9 => ?_)
  refine V_iconst X (v := 1) (by decide) dX6_pass_12 ?_
  refine V_goto X (tgt := 32) (by decide) dX6_pass_13 ?_
  refine V_callV (kc' := 0) (ks' := 0) X (rest := _) (c_X6_can _ _ _ am _ ar hR _) hR.1 rfl gX6_pass_X6_can rfl hdv_X6_can (Nat.le_of_ble_eq_true rfl) (Nat.le_of_ble_eq_true rfl) rfl (Nat.le_of_ble_eq_true rfl) (by omega) (by omega) dX6_pass_32 (fun r f1 hq => ?_)
  obtain ⟨rfl, hR, hF1⟩ := hq
  have hF := hF.trans hF1
  refine V.top (y := 0) (by decide) ?_
  refine V_if_ne X (tgt := 40) (by decide) dX6_pass_35 (fun hc35 => absurd hc35 (by decide)) (fun hc35 => ?_)
  refine V_iconst X (v := 0) (by decide) dX6_pass_38 ?_
  exact V_iret X hr (⟨rfl, hR, hF⟩) dX6_pass_39
theorem hinX6_pass_X6 : ∀ w ∈ wsX60, w ∈ wsX6_pass := by decide +kernel
set_option maxHeartbeats 4000000 in
set_option maxRecDepth 100000 in
theorem c_X6_pass_2 (l : Launch) (G : GG) (f : Wo) (am : Nat → Nat) (sc : Nat → Int32) (ar : Nat → Nat → Int32) (hR : RM G am sc ar f) (mi : Int32) (h1 : inI mi 1 1000 = true) (h2 : ¬ sc 3 + mi ≤ 100000) : Ct l yX6_pass wsX6_pass 5 134 G [.ref (am 0), .int mi] f (fun v9 f' => v9 = some (.int 0) ∧ RM G am (va_up sc 7 2) (ar) f' ∧ FrM am f f') 0 0 := by
  refine Ct.of (cc := cX6_pass) (maxL := 5) (ret := (some .int)) (by decide) rfl (Nat.le_of_ble_eq_true rfl) (lv := [(0, _), (1, _)]) rfl (by simp [Value.category]) ?_
  intro K X hL hG hr hnm
  subst hL; subst hG
  have hF : FrM am f f := FrM.rf
  refine V_aload_n X rfl dX6_pass_0 ?_
  refine V_iload_n X rfl dX6_pass_1 ?_
  refine V_iconst X (v := 1) (by decide) dX6_pass_2 ?_
  refine V_sipush X (v := 1000) (by decide) dX6_pass_3 ?_
  refine V_callSp X (rest := _) (c_X6_isIn _ _ _ _ _ _) gX6_pass_X6_isIn rfl hds_X6_isIn (Nat.le_of_ble_eq_true rfl) (Nat.le_of_ble_eq_true rfl) rfl (Nat.le_of_ble_eq_true rfl) dX6_pass_6 ?_
  refine V.top (y := 1) (by rw [h1]; rfl) ?_
  refine V_if_ne X (tgt := 16) (by decide) dX6_pass_9 (fun hc9 => ?_) (fun hc9 => absurd hc9 (by decide))
  refine V_aload_n X rfl dX6_pass_16 ?_
  refine V_mget X hR (v := .int (sc 3)) 18 (by decide) hinX6_pass_X6 (congrArg (fun z => some (Value.int z)) (rfl)) (by decide +kernel) rfl dX6_pass_17 ?_
  refine V_iload_n X rfl dX6_pass_20 ?_
  refine V_iadd X dX6_pass_21 ?_
  refine V_ldc X (v := 100000) (by decide +kernel) dX6_pass_22 ?_
  refine V_icmp_le X (tgt := 31) (by decide) dX6_pass_24 (fun hc24 => absurd hc24 (h2)) (fun hc24 => ?_)
  refine V_iconst X (v := 2) (by decide) dX6_pass_27 ?_
  refine V_goto X (tgt := 32) (by decide) dX6_pass_28 ?_
  refine V_callV (kc' := 0) (ks' := 0) X (rest := _) (c_X6_can _ _ _ am _ ar hR _) hR.1 rfl gX6_pass_X6_can rfl hdv_X6_can (Nat.le_of_ble_eq_true rfl) (Nat.le_of_ble_eq_true rfl) rfl (Nat.le_of_ble_eq_true rfl) (by omega) (by omega) dX6_pass_32 (fun r f1 hq => ?_)
  obtain ⟨rfl, hR, hF1⟩ := hq
  have hF := hF.trans hF1
  refine V.top (y := 0) (by decide) ?_
  refine V_if_ne X (tgt := 40) (by decide) dX6_pass_35 (fun hc35 => absurd hc35 (by decide)) (fun hc35 => ?_)
  refine V_iconst X (v := 0) (by decide) dX6_pass_38 ?_
  exact V_iret X hr (⟨rfl, hR, hF⟩) dX6_pass_39
set_option maxHeartbeats 4000000 in
set_option maxRecDepth 100000 in
theorem c_X6_pass_0 (l : Launch) (G : GG) (f : Wo) (am : Nat → Nat) (sc : Nat → Int32) (ar : Nat → Nat → Int32) (hR : RM G am sc ar f) (np : Nat) (hnp : sc 0 = nI np) (hp18 : np ≤ 18) (nt : Nat) (hnt : sc 1 = nI nt) (ht100 : nt ≤ 100) (nm : Nat) (hnm2 : sc 2 = nI nm) (hm600 : nm ≤ 600) (mi : Nat) (hmi : mi ≤ 1000) (h1 : inI (nI mi) 1 1000 = true) (h2 : sc 3 + nI mi ≤ 100000) : Ct l yX6_pass wsX6_pass 5 134 G [.ref (am 0), .int (nI mi)] f (fun v9 f' => v9 = some (.int (outA np nt nm (sc 3) ar mi).2) ∧ RM G am (va_up (va_up sc 7 0) 3 (sc 3 + nI mi)) ((outA np nt nm (sc 3) ar mi).1) f' ∧ FrM am f f') 0 0 := by
  refine Ct.of (cc := cX6_pass) (maxL := 5) (ret := (some .int)) (by decide) rfl (Nat.le_of_ble_eq_true rfl) (lv := [(0, _), (1, _)]) rfl (by simp [Value.category]) ?_
  intro K X hL hG hr hnm
  subst hL; subst hG
  have hF : FrM am f f := FrM.rf
  obtain ⟨f0, hf0⟩ : ∃ z, z = f := ⟨_, rfl⟩
  have LO : ∀ (n t : Nat), mi - t = n → t ≤ mi → ∀ (fw : Wo), RM (kG K) am (va_up (va_up sc 7 0) 3 (sc 3 + nI t)) (outA np nt nm (sc 3) ar t).1 fw → FrM am f0 fw → V K fw 0 0 44 [(0, .ref (am 0)), (1, .int (nI mi)), (2, .int (outA np nt nm (sc 3) ar t).2), (3, .int (nI t))] [] := by
    intro n
    induction n using Nat.strongRecOn with
    | ind n ihO =>
      intro t hn hi f hR hF
      refine V_iload_n X rfl dX6_pass_44 ?_
      refine V_iload_n X rfl dX6_pass_45 ?_
      refine V_icmp_ge X (tgt := 118) (by decide) dX6_pass_46 (fun hc46 => ?_) (fun hc46 => ?_)
      · have hi18 := lim_ge (N := mi) rfl hc46 hi (by omega)
        subst hi18
        refine V_iload_n X rfl dX6_pass_118 ?_
        exact V_iret X hr (⟨rfl, hR, by rw [← hf0]; exact hF⟩) dX6_pass_119
      · have hlt := lim_lt (N := mi) rfl hc46 hi (by omega)
        refine V_aload_n X rfl dX6_pass_49 ?_
        refine V_dup X rfl dX6_pass_50 ?_
        refine V_mget X hR (v := .int (sc 3 + nI t)) 18 (by decide) hinX6_pass_X6 (congrArg (fun z => some (Value.int z)) (rfl)) (by decide +kernel) rfl dX6_pass_51 ?_
        refine V_iconst X (v := 1) (by decide) dX6_pass_54 ?_
        refine V_iadd X dX6_pass_55 ?_
        refine V.top (y := sc 3 + nI (t + 1)) (by rw [Int32.add_assoc, nI_1]) ?_
        refine V_mput X hR hF 3 18 (by decide) hinX6_pass_X6 rfl (by decide +kernel) rfl rfl rfl dX6_pass_56 (fun f hR hF => ?_)
        have hR : RM (kG K) am (va_up (va_up sc 7 0) 3 (sc 3 + nI (t + 1))) (outA np nt nm (sc 3) ar t).1 f := by
          rw [va_up_up] at hR
          exact hR
        have LI : ∀ (n i : Nat), nm - i = n → i ≤ nm → ∀ (fw : Wo), RM (kG K) am (va_up (va_up sc 7 0) 3 (sc 3 + nI (t + 1))) (innA np nt (sc 3 + nI (t + 1)) i (outA np nt nm (sc 3) ar t)).1 fw → FrM am f0 fw → V K fw 0 0 62 [(0, .ref (am 0)), (1, .int (nI mi)), (2, .int (innA np nt (sc 3 + nI (t + 1)) i (outA np nt nm (sc 3) ar t)).2), (3, .int (nI t)), (4, .int (nI i))] [] := by
          intro n
          induction n using Nat.strongRecOn with
          | ind n ih =>
            intro i hn hi f hR hF
            refine V_iload X rfl dX6_pass_62 ?_
            refine V_aload_n X rfl dX6_pass_64 ?_
            refine V_mget X hR (v := .int (nI nm)) 12 (by decide) hinX6_pass_X6 (congrArg (fun z => some (Value.int z)) (hnm2)) (by decide +kernel) rfl dX6_pass_65 ?_
            refine V_icmp_ge X (tgt := 112) (by decide) dX6_pass_68 (fun hc68 => ?_) (fun hc68 => ?_)
            · have hi18 := lim_ge (N := nm) rfl hc68 hi (by omega)
              subst hi18
              refine V_iinc X (lv' := [(3, _), (0, _), (1, _), (2, _), (4, _)]) (v := nI (t + 1)) rfl (nI_1 _) (by decide) rfl dX6_pass_112 ?_
              refine V_goto X (tgt := 44) (by decide) dX6_pass_115 ?_
              refine V.lvs (lv' := [(0, _), (1, _), (2, _), (3, _)]) rfl ?_
              exact ihO (mi - (t + 1)) (by omega) (t + 1) rfl (by omega) f hR hF
            · have hlt := lim_lt (N := nm) rfl hc68 hi (by omega)
              refine V_aload_n X rfl dX6_pass_71 ?_
              refine V_mget X hR (v := .ref (am 15)) 17 (by decide) hinX6_pass_X6 (rfl) (by decide +kernel) rfl dX6_pass_72 ?_
              refine V_iload X rfl dX6_pass_75 ?_
              refine V_mald X hR 15 (i) 600 (by decide) rfl (by omega) (by decide) rfl dX6_pass_77 ?_
              refine V_if_ne X (tgt := 106) (by decide) dX6_pass_78 (fun hc78 => ?_) (fun hc78 => ?_)
              · refine V_iinc X (lv' := [(4, _), (0, _), (1, _), (2, _), (3, _)]) (v := nI (i + 1)) rfl (nI_1 _) (by decide) rfl dX6_pass_106 ?_
                refine V_goto X (tgt := 62) (by decide) dX6_pass_109 ?_
                refine V.lvs (lv' := [(0, _), (1, _), (2, _), (3, _), (4, _)]) rfl ?_
                exact ih (nm - (i + 1)) (by omega) (i + 1) rfl (by omega) _ (by rw [innA_f (fun h9 => hc78 h9.1)]; exact hR) hF |> (fun z => by rw [innA_f (fun h9 => hc78 h9.1)] at z; exact z)
              · refine V_aload_n X rfl dX6_pass_81 ?_
                refine V_mget X hR (v := .int (sc 3 + nI (t + 1))) 18 (by decide) hinX6_pass_X6 (congrArg (fun z => some (Value.int z)) (rfl)) (by decide +kernel) rfl dX6_pass_82 ?_
                refine V_aload_n X rfl dX6_pass_85 ?_
                refine V_mget X hR (v := .ref (am 13)) 15 (by decide) hinX6_pass_X6 (rfl) (by decide +kernel) rfl dX6_pass_86 ?_
                refine V_iload X rfl dX6_pass_89 ?_
                refine V_mald X hR 13 (i) 600 (by decide) rfl (by omega) (by decide) rfl dX6_pass_91 ?_
                refine V_isub X dX6_pass_92 ?_
                refine V_iconst X (v := 3) (by decide) dX6_pass_93 ?_
                refine V_icmp_lt X (tgt := 106) (by decide) dX6_pass_94 (fun hc94 => ?_) (fun hc94 => ?_)
                · refine V_iinc X (lv' := [(4, _), (0, _), (1, _), (2, _), (3, _)]) (v := nI (i + 1)) rfl (nI_1 _) (by decide) rfl dX6_pass_106 ?_
                  refine V_goto X (tgt := 62) (by decide) dX6_pass_109 ?_
                  refine V.lvs (lv' := [(0, _), (1, _), (2, _), (3, _), (4, _)]) rfl ?_
                  exact ih (nm - (i + 1)) (by omega) (i + 1) rfl (by omega) _ (by rw [innA_f (fun h9 => absurd h9.2 (Int32.not_le.mpr hc94))]; exact hR) hF |> (fun z => by rw [innA_f (fun h9 => absurd h9.2 (Int32.not_le.mpr hc94))] at z; exact z)
                · refine V_aload_n X rfl dX6_pass_97 ?_
                  refine V_iload X rfl dX6_pass_98 ?_
                  refine V_callV (kc' := 0) (ks' := 0) X (rest := _) (c_X6_expires _ _ _ am _ _ hR np hnp hp18 nt hnt ht100 i (by omega)) hR.1 rfl gX6_pass_X6_expires rfl hdv_X6_expires (Nat.le_of_ble_eq_true rfl) (Nat.le_of_ble_eq_true rfl) rfl (Nat.le_of_ble_eq_true rfl) (by omega) (by omega) dX6_pass_100 (fun r f1 hq => ?_)
                  obtain ⟨rfl, hR, hF1⟩ := hq
                  have hF := hF.trans hF1
                  refine V_iinc X (lv' := [(2, _), (0, _), (1, _), (3, _), (4, _)]) rfl (rfl) (by decide) rfl dX6_pass_103 ?_
                  refine V_iinc X (lv' := [(4, _), (2, _), (0, _), (1, _), (3, _)]) (v := nI (i + 1)) rfl (nI_1 _) (by decide) rfl dX6_pass_106 ?_
                  refine V_goto X (tgt := 62) (by decide) dX6_pass_109 ?_
                  refine V.lvs (lv' := [(0, _), (1, _), (2, _), (3, _), (4, _)]) rfl ?_
                  exact ih (nm - (i + 1)) (by omega) (i + 1) rfl (by omega) _ (by rw [innA_t ⟨hc78, Int32.not_lt.mp hc94⟩]; exact hR) hF |> (fun z => by rw [innA_t ⟨hc78, Int32.not_lt.mp hc94⟩] at z; exact z)
        refine V_iconst X (v := 0) (by decide) dX6_pass_59 ?_
        refine V_istore X (lv' := [(4, _), (0, _), (1, _), (2, _), (3, _)]) (by decide) rfl dX6_pass_60 ?_
        refine V.lvs (lv' := [(0, _), (1, _), (2, _), (3, _), (4, _)]) rfl ?_
        exact LI nm 0 (by omega) (by omega) f hR hF
  refine V_aload_n X rfl dX6_pass_0 ?_
  refine V_iload_n X rfl dX6_pass_1 ?_
  refine V_iconst X (v := 1) (by decide) dX6_pass_2 ?_
  refine V_sipush X (v := 1000) (by decide) dX6_pass_3 ?_
  refine V_callSp X (rest := _) (c_X6_isIn _ _ _ _ _ _) gX6_pass_X6_isIn rfl hds_X6_isIn (Nat.le_of_ble_eq_true rfl) (Nat.le_of_ble_eq_true rfl) rfl (Nat.le_of_ble_eq_true rfl) dX6_pass_6 ?_
  refine V.top (y := 1) (by rw [h1]; rfl) ?_
  refine V_if_ne X (tgt := 16) (by decide) dX6_pass_9 (fun hc9 => ?_) (fun hc9 => absurd hc9 (by decide))
  refine V_aload_n X rfl dX6_pass_16 ?_
  refine V_mget X hR (v := .int (sc 3)) 18 (by decide) hinX6_pass_X6 (congrArg (fun z => some (Value.int z)) (rfl)) (by decide +kernel) rfl dX6_pass_17 ?_
  refine V_iload_n X rfl dX6_pass_20 ?_
  refine V_iadd X dX6_pass_21 ?_
  refine V_ldc X (v := 100000) (by decide +kernel) dX6_pass_22 ?_
  refine V_icmp_le X (tgt := 31) (by decide) dX6_pass_24 (fun hc24 => ?_) (fun hc24 => absurd hc24 (not_not_intro h2))
  refine V_iconst X (v := 0) (by decide) dX6_pass_31 ?_
  refine V_callV (kc' := 0) (ks' := 0) X (rest := _) (c_X6_can _ _ _ am _ ar hR _) hR.1 rfl gX6_pass_X6_can rfl hdv_X6_can (Nat.le_of_ble_eq_true rfl) (Nat.le_of_ble_eq_true rfl) rfl (Nat.le_of_ble_eq_true rfl) (by omega) (by omega) dX6_pass_32 (fun r f1 hq => ?_)
  obtain ⟨rfl, hR, hF1⟩ := hq
  have hF := hF.trans hF1
  refine V.top (y := 1) (by decide) ?_
  refine V_if_ne X (tgt := 40) (by decide) dX6_pass_35 (fun hc35 => ?_) (fun hc35 => absurd hc35 (by decide))
  refine V_iconst X (v := 0) (by decide) dX6_pass_40 ?_
  refine V_istore_n X (lv' := [(2, _), (0, _), (1, _)]) (by decide) rfl dX6_pass_41 ?_
  refine V_iconst X (v := 0) (by decide) dX6_pass_42 ?_
  refine V_istore_n X (lv' := [(3, _), (2, _), (0, _), (1, _)]) (by decide) rfl dX6_pass_43 ?_
  refine V.lvs (lv' := [(0, _), (1, _), (2, _), (3, _)]) rfl ?_
  exact LO mi 0 (by omega) (by omega) f1 (by rw [show sc 3 + nI 0 = sc 3 from by rw [nI_0, Int32.add_zero], show va_up (va_up sc 7 0) 3 (sc 3) = va_up sc 7 0 from va_up_id (va_up sc 7 0) 3]; exact hR) (by rw [hf0]; exact hF)
