theorem hinX6_thrown_X6 : ∀ w ∈ wsX60, w ∈ wsX6_thrown := by decide +kernel
set_option maxHeartbeats 4000000 in
set_option maxRecDepth 100000 in
theorem c_X6_thrown (l : Launch) (G : GG) (f : Wo) (am : Nat → Nat) (sc : Nat → Int32) (ar : Nat → Nat → Int32) (hR : RM G am sc ar f) : Cp l yX6_thrown wsX6_thrown 1 44 G [.ref (am 0)] f (.int (sc 7)) := by
  refine Ct.of (cc := cX6_thrown) (maxL := 1) (ret := (some .int)) (by decide) rfl (Nat.le_of_ble_eq_true rfl) (lv := [(0, _)]) rfl (by simp [Value.category]) ?_
  intro K X hL hG hr hnm
  subst hL; subst hG
  refine V_aload_n X rfl dX6_thrown_0 ?_
  refine V_mget X hR (v := .int (sc 7)) 23 (by decide) hinX6_thrown_X6 (rfl) (by decide +kernel) rfl dX6_thrown_1 ?_
  exact V_iret X hr (⟨rfl, rfl⟩) dX6_thrown_4
theorem hinX6_can_X6 : ∀ w ∈ wsX60, w ∈ wsX6_can := by decide +kernel
set_option maxHeartbeats 4000000 in
set_option maxRecDepth 100000 in
theorem c_X6_can (l : Launch) (G : GG) (f : Wo) (am : Nat → Nat) (sc : Nat → Int32) (ar : Nat → Nat → Int32) (hR : RM G am sc ar f) (x : Int32) : Ct l yX6_can wsX6_can 1 44 G [.ref (am 0), .int x] f (fun v9 f' => v9 = some (.int (bI (decide (x = 0)))) ∧ RM G am (va_up sc 7 x) (ar) f' ∧ FrM am f f') 0 0 := by
  refine Ct.of (cc := cX6_can) (maxL := 2) (ret := (some .boolean)) (by decide) rfl (Nat.le_of_ble_eq_true rfl) (lv := [(0, _), (1, _)]) rfl (by simp [Value.category]) ?_
  intro K X hL hG hr hnm
  subst hL; subst hG
  have hF : FrM am f f := FrM.rf
  refine V_aload_n X rfl dX6_can_0 ?_
  refine V_iload_n X rfl dX6_can_1 ?_
  refine V_mput X hR hF 7 23 (by decide) hinX6_can_X6 rfl (by decide +kernel) rfl rfl rfl dX6_can_2 (fun f hR hF => ?_)
  refine V_iload_n X rfl dX6_can_5 ?_
  refine V_if_ne X (tgt := 13) (by decide) dX6_can_6 (fun hc6 => ?_) (fun hc6 => ?_)
  · refine V_iconst X (v := 0) (by decide) dX6_can_13 ?_
    exact V_zret X hr (by decide) (⟨bI_f (decide_eq_false hc6), hR, hF⟩) dX6_can_14
  · refine V_iconst X (v := 1) (by decide) dX6_can_9 ?_
    refine V_goto X (tgt := 14) (by decide) dX6_can_10 ?_
    exact V_zret X hr (by decide) (⟨bI_t (decide_eq_true hc6), hR, hF⟩) dX6_can_14
theorem hinX6_isPlayer_X6 : ∀ w ∈ wsX60, w ∈ wsX6_isPlayer := by decide +kernel
set_option maxHeartbeats 4000000 in
set_option maxRecDepth 100000 in
theorem c_X6_isPlayer (l : Launch) (G : GG) (f : Wo) (am : Nat → Nat) (sc : Nat → Int32) (ar : Nat → Nat → Int32) (hR : RM G am sc ar f) (p : Int32) : Cp l yX6_isPlayer wsX6_isPlayer 2 66 G [.ref (am 0), .int p] f (.int (bI (inI p 0 (sc 0 - 1)))) := by
  refine Ct.of (cc := cX6_isPlayer) (maxL := 2) (ret := (some .boolean)) (by decide) rfl (Nat.le_of_ble_eq_true rfl) (lv := [(0, _), (1, _)]) rfl (by simp [Value.category]) ?_
  intro K X hL hG hr hnm
  subst hL; subst hG
  refine V_iload_n X rfl dX6_isPlayer_0 ?_
  refine V_iconst X (v := 0) (by decide) dX6_isPlayer_1 ?_
  refine V_aload_n X rfl dX6_isPlayer_2 ?_
  refine V_mget X hR (v := .int (sc 0)) 0 (by decide) hinX6_isPlayer_X6 (rfl) (by decide +kernel) rfl dX6_isPlayer_3 ?_
  refine V_iconst X (v := 1) (by decide) dX6_isPlayer_6 ?_
  refine V_isub X dX6_isPlayer_7 ?_
  refine V_callSp X (rest := _) (c_X6_isIn _ _ _ _ _ _) gX6_isPlayer_X6_isIn rfl hds_X6_isIn (Nat.le_of_ble_eq_true rfl) (Nat.le_of_ble_eq_true rfl) rfl (Nat.le_of_ble_eq_true rfl) dX6_isPlayer_8 ?_
  exact V_zret X hr (bI_nar _) (⟨rfl, rfl⟩) dX6_isPlayer_11
theorem hinX6_isParty_X6 : ∀ w ∈ wsX60, w ∈ wsX6_isParty := by decide +kernel
set_option maxHeartbeats 4000000 in
set_option maxRecDepth 100000 in
theorem c_X6_isParty (l : Launch) (G : GG) (f : Wo) (am : Nat → Nat) (sc : Nat → Int32) (ar : Nat → Nat → Int32) (hR : RM G am sc ar f) (p : Int32) : Cp l yX6_isParty wsX6_isParty 2 66 G [.ref (am 0), .int p] f (.int (bI (inI p 0 (sc 1 - 1)))) := by
  refine Ct.of (cc := cX6_isParty) (maxL := 2) (ret := (some .boolean)) (by decide) rfl (Nat.le_of_ble_eq_true rfl) (lv := [(0, _), (1, _)]) rfl (by simp [Value.category]) ?_
  intro K X hL hG hr hnm
  subst hL; subst hG
  refine V_iload_n X rfl dX6_isParty_0 ?_
  refine V_iconst X (v := 0) (by decide) dX6_isParty_1 ?_
  refine V_aload_n X rfl dX6_isParty_2 ?_
  refine V_mget X hR (v := .int (sc 1)) 7 (by decide) hinX6_isParty_X6 (rfl) (by decide +kernel) rfl dX6_isParty_3 ?_
  refine V_iconst X (v := 1) (by decide) dX6_isParty_6 ?_
  refine V_isub X dX6_isParty_7 ?_
  refine V_callSp X (rest := _) (c_X6_isIn _ _ _ _ _ _) gX6_isParty_X6_isIn rfl hds_X6_isIn (Nat.le_of_ble_eq_true rfl) (Nat.le_of_ble_eq_true rfl) rfl (Nat.le_of_ble_eq_true rfl) dX6_isParty_8 ?_
  exact V_zret X hr (bI_nar _) (⟨rfl, rfl⟩) dX6_isParty_11
theorem hinX6_isMatch_X6 : ∀ w ∈ wsX60, w ∈ wsX6_isMatch := by decide +kernel
set_option maxHeartbeats 4000000 in
set_option maxRecDepth 100000 in
theorem c_X6_isMatch (l : Launch) (G : GG) (f : Wo) (am : Nat → Nat) (sc : Nat → Int32) (ar : Nat → Nat → Int32) (hR : RM G am sc ar f) (p : Int32) : Cp l yX6_isMatch wsX6_isMatch 2 66 G [.ref (am 0), .int p] f (.int (bI (inI p 0 (sc 2 - 1)))) := by
  refine Ct.of (cc := cX6_isMatch) (maxL := 2) (ret := (some .boolean)) (by decide) rfl (Nat.le_of_ble_eq_true rfl) (lv := [(0, _), (1, _)]) rfl (by simp [Value.category]) ?_
  intro K X hL hG hr hnm
  subst hL; subst hG
  refine V_iload_n X rfl dX6_isMatch_0 ?_
  refine V_iconst X (v := 0) (by decide) dX6_isMatch_1 ?_
  refine V_aload_n X rfl dX6_isMatch_2 ?_
  refine V_mget X hR (v := .int (sc 2)) 12 (by decide) hinX6_isMatch_X6 (rfl) (by decide +kernel) rfl dX6_isMatch_3 ?_
  refine V_iconst X (v := 1) (by decide) dX6_isMatch_6 ?_
  refine V_isub X dX6_isMatch_7 ?_
  refine V_callSp X (rest := _) (c_X6_isIn _ _ _ _ _ _) gX6_isMatch_X6_isIn rfl hds_X6_isIn (Nat.le_of_ble_eq_true rfl) (Nat.le_of_ble_eq_true rfl) rfl (Nat.le_of_ble_eq_true rfl) dX6_isMatch_8 ?_
  exact V_zret X hr (bI_nar _) (⟨rfl, rfl⟩) dX6_isMatch_11
theorem hinX6_queues_X6 : ∀ w ∈ wsX60, w ∈ wsX6_queues := by decide +kernel
set_option maxHeartbeats 4000000 in
set_option maxRecDepth 100000 in
theorem c_X6_queues (l : Launch) (G : GG) (f : Wo) (am : Nat → Nat) (sc : Nat → Int32) (ar : Nat → Nat → Int32) (hR : RM G am sc ar f) (k : Nat) (hk : k < 100) (b : Bool) (hb : ar 9 k = bI b) : Cp l yX6_queues wsX6_queues 1 44 G [.ref (am 0), .int (nI k)] f (.int (bI b)) := by
  refine Ct.of (cc := cX6_queues) (maxL := 2) (ret := (some .boolean)) (by decide) rfl (Nat.le_of_ble_eq_true rfl) (lv := [(0, _), (1, _)]) rfl (by simp [Value.category]) ?_
  intro K X hL hG hr hnm
  subst hL; subst hG
  refine V_aload_n X rfl dX6_queues_0 ?_
  refine V_mget X hR (v := .ref (am 9)) 10 (by decide) hinX6_queues_X6 (rfl) (by decide +kernel) rfl dX6_queues_1 ?_
  refine V_iload_n X rfl dX6_queues_4 ?_
  refine V_mzld X hR (k) (by omega) (w := bI b) (hb) dX6_queues_5 ?_
  exact V_zret X hr (bI_nar _) (⟨rfl, rfl⟩) dX6_queues_6
theorem hinX6_players_X6 : ∀ w ∈ wsX60, w ∈ wsX6_players := by decide +kernel
set_option maxHeartbeats 4000000 in
set_option maxRecDepth 100000 in
theorem c_X6_players (l : Launch) (G : GG) (f : Wo) (am : Nat → Nat) (sc : Nat → Int32) (ar : Nat → Nat → Int32) (hR : RM G am sc ar f) : Ct l yX6_players wsX6_players 1 44 G [.ref (am 0)] f (fun v9 f' => v9 = some (.int (sc 0)) ∧ RM G am (va_up sc 7 0) (ar) f' ∧ FrM am f f') 0 0 := by
  refine Ct.of (cc := cX6_players) (maxL := 1) (ret := (some .int)) (by decide) rfl (Nat.le_of_ble_eq_true rfl) (lv := [(0, _)]) rfl (by simp [Value.category]) ?_
  intro K X hL hG hr hnm
  subst hL; subst hG
  have hF : FrM am f f := FrM.rf
  refine V_aload_n X rfl dX6_players_0 ?_
  refine V_iconst X (v := 0) (by decide) dX6_players_1 ?_
  refine V_mput X hR hF 7 23 (by decide) hinX6_players_X6 rfl (by decide +kernel) rfl rfl rfl dX6_players_2 (fun f hR hF => ?_)
  refine V_aload_n X rfl dX6_players_5 ?_
  refine V_mget X hR (v := .int (sc 0)) 0 (by decide) hinX6_players_X6 (rfl) (by decide +kernel) rfl dX6_players_6 ?_
  exact V_iret X hr (⟨rfl, hR, hF⟩) dX6_players_9
theorem hinX6_matches_X6 : ∀ w ∈ wsX60, w ∈ wsX6_matches := by decide +kernel
set_option maxHeartbeats 4000000 in
set_option maxRecDepth 100000 in
theorem c_X6_matches (l : Launch) (G : GG) (f : Wo) (am : Nat → Nat) (sc : Nat → Int32) (ar : Nat → Nat → Int32) (hR : RM G am sc ar f) : Ct l yX6_matches wsX6_matches 1 44 G [.ref (am 0)] f (fun v9 f' => v9 = some (.int (sc 2)) ∧ RM G am (va_up sc 7 0) (ar) f' ∧ FrM am f f') 0 0 := by
  refine Ct.of (cc := cX6_matches) (maxL := 1) (ret := (some .int)) (by decide) rfl (Nat.le_of_ble_eq_true rfl) (lv := [(0, _)]) rfl (by simp [Value.category]) ?_
  intro K X hL hG hr hnm
  subst hL; subst hG
  have hF : FrM am f f := FrM.rf
  refine V_aload_n X rfl dX6_matches_0 ?_
  refine V_iconst X (v := 0) (by decide) dX6_matches_1 ?_
  refine V_mput X hR hF 7 23 (by decide) hinX6_matches_X6 rfl (by decide +kernel) rfl rfl rfl dX6_matches_2 (fun f hR hF => ?_)
  refine V_aload_n X rfl dX6_matches_5 ?_
  refine V_mget X hR (v := .int (sc 2)) 12 (by decide) hinX6_matches_X6 (rfl) (by decide +kernel) rfl dX6_matches_6 ?_
  exact V_iret X hr (⟨rfl, hR, hF⟩) dX6_matches_9
theorem hinX6_clock_X6 : ∀ w ∈ wsX60, w ∈ wsX6_clock := by decide +kernel
set_option maxHeartbeats 4000000 in
set_option maxRecDepth 100000 in
theorem c_X6_clock (l : Launch) (G : GG) (f : Wo) (am : Nat → Nat) (sc : Nat → Int32) (ar : Nat → Nat → Int32) (hR : RM G am sc ar f) : Ct l yX6_clock wsX6_clock 1 44 G [.ref (am 0)] f (fun v9 f' => v9 = some (.int (sc 3)) ∧ RM G am (va_up sc 7 0) (ar) f' ∧ FrM am f f') 0 0 := by
  refine Ct.of (cc := cX6_clock) (maxL := 1) (ret := (some .int)) (by decide) rfl (Nat.le_of_ble_eq_true rfl) (lv := [(0, _)]) rfl (by simp [Value.category]) ?_
  intro K X hL hG hr hnm
  subst hL; subst hG
  have hF : FrM am f f := FrM.rf
  refine V_aload_n X rfl dX6_clock_0 ?_
  refine V_iconst X (v := 0) (by decide) dX6_clock_1 ?_
  refine V_mput X hR hF 7 23 (by decide) hinX6_clock_X6 rfl (by decide +kernel) rfl rfl rfl dX6_clock_2 (fun f hR hF => ?_)
  refine V_aload_n X rfl dX6_clock_5 ?_
  refine V_mget X hR (v := .int (sc 3)) 18 (by decide) hinX6_clock_X6 (rfl) (by decide +kernel) rfl dX6_clock_6 ?_
  exact V_iret X hr (⟨rfl, hR, hF⟩) dX6_clock_9
set_option maxHeartbeats 4000000 in
set_option maxRecDepth 100000 in
theorem c_X6_isAsked_e (l : Launch) (G : GG) (f : Wo) (am : Nat → Nat) (sc : Nat → Int32) (ar : Nat → Nat → Int32) (hR : RM G am sc ar f) (p : Int32) (hq : inI p 0 (sc 0 - 1) = false) : Ct l yX6_isAsked wsX6_isAsked 3 87 G [.ref (am 0), .int p] f (fun v9 f' => v9 = some (.int 0) ∧ RM G am (va_up sc 7 1) (ar) f' ∧ FrM am f f') 0 0 := by
  refine Ct.of (cc := cX6_isAsked) (maxL := 2) (ret := (some .boolean)) (by decide) rfl (Nat.le_of_ble_eq_true rfl) (lv := [(0, _), (1, _)]) rfl (by simp [Value.category]) ?_
  intro K X hL hG hr hnm
  subst hL; subst hG
  have hF : FrM am f f := FrM.rf
  refine V_aload_n X rfl dX6_isAsked_0 ?_
  refine V_aload_n X rfl dX6_isAsked_1 ?_
  refine V_iload_n X rfl dX6_isAsked_2 ?_
  refine V_callVp X (rest := _) (c_X6_isPlayer _ _ _ am sc ar hR _) hR.1 rfl gX6_isAsked_X6_isPlayer rfl hdv_X6_isPlayer (Nat.le_of_ble_eq_true rfl) (Nat.le_of_ble_eq_true rfl) rfl (Nat.le_of_ble_eq_true rfl) dX6_isAsked_3 ?_
  refine V.top (y := 0) (by rw [hq]; rfl) ?_
  refine V_if_eq X (tgt := 13) (by decide) dX6_isAsked_6 (fun hc6 => ?_) (fun hc6 => absurd hc6 (by decide))
  refine V_iconst X (v := 1) (by decide) dX6_isAsked_13 ?_
  refine V_callV (kc' := 0) (ks' := 0) X (rest := _) (c_X6_can _ _ _ am _ ar hR _) hR.1 rfl gX6_isAsked_X6_can rfl hdv_X6_can (Nat.le_of_ble_eq_true rfl) (Nat.le_of_ble_eq_true rfl) rfl (Nat.le_of_ble_eq_true rfl) (by omega) (by omega) dX6_isAsked_14 (fun r f1 hq => ?_)
  obtain ⟨rfl, hR, hF1⟩ := hq
  have hF := hF.trans hF1
  refine V.top (y := 0) (by decide) ?_
  exact V_zret X hr (by decide) (⟨rfl, hR, hF⟩) dX6_isAsked_17
set_option maxHeartbeats 4000000 in
set_option maxRecDepth 100000 in
theorem c_X6_isAsked_0 (l : Launch) (G : GG) (f : Wo) (am : Nat → Nat) (sc : Nat → Int32) (ar : Nat → Nat → Int32) (hR : RM G am sc ar f) (p : Int32) (hq : inI p 0 (sc 0 - 1) = true) : Ct l yX6_isAsked wsX6_isAsked 3 87 G [.ref (am 0), .int p] f (fun v9 f' => v9 = some (.int 1) ∧ RM G am (va_up sc 7 0) (ar) f' ∧ FrM am f f') 0 0 := by
  refine Ct.of (cc := cX6_isAsked) (maxL := 2) (ret := (some .boolean)) (by decide) rfl (Nat.le_of_ble_eq_true rfl) (lv := [(0, _), (1, _)]) rfl (by simp [Value.category]) ?_
  intro K X hL hG hr hnm
  subst hL; subst hG
  have hF : FrM am f f := FrM.rf
  refine V_aload_n X rfl dX6_isAsked_0 ?_
  refine V_aload_n X rfl dX6_isAsked_1 ?_
  refine V_iload_n X rfl dX6_isAsked_2 ?_
  refine V_callVp X (rest := _) (c_X6_isPlayer _ _ _ am sc ar hR _) hR.1 rfl gX6_isAsked_X6_isPlayer rfl hdv_X6_isPlayer (Nat.le_of_ble_eq_true rfl) (Nat.le_of_ble_eq_true rfl) rfl (Nat.le_of_ble_eq_true rfl) dX6_isAsked_3 ?_
  refine V.top (y := 1) (by rw [hq]; rfl) ?_
  refine V_if_eq X (tgt := 13) (by decide) dX6_isAsked_6 (fun hc6 => absurd hc6 (by decide)) (fun hc6 => ?_)
  refine V_iconst X (v := 0) (by decide) dX6_isAsked_9 ?_
  refine V_goto X (tgt := 14) (by decide) dX6_isAsked_10 ?_
  refine V_callV (kc' := 0) (ks' := 0) X (rest := _) (c_X6_can _ _ _ am _ ar hR _) hR.1 rfl gX6_isAsked_X6_can rfl hdv_X6_can (Nat.le_of_ble_eq_true rfl) (Nat.le_of_ble_eq_true rfl) rfl (Nat.le_of_ble_eq_true rfl) (by omega) (by omega) dX6_isAsked_14 (fun r f1 hq => ?_)
  obtain ⟨rfl, hR, hF1⟩ := hq
  have hF := hF.trans hF1
  refine V.top (y := 1) (by decide) ?_
  exact V_zret X hr (by decide) (⟨rfl, hR, hF⟩) dX6_isAsked_17
set_option maxHeartbeats 4000000 in
set_option maxRecDepth 100000 in
theorem c_X6_state_e (l : Launch) (G : GG) (f : Wo) (am : Nat → Nat) (sc : Nat → Int32) (ar : Nat → Nat → Int32) (hR : RM G am sc ar f) (p : Int32) (hq : inI p 0 (sc 0 - 1) = false) : Ct l yX6_state wsX6_state 4 108 G [.ref (am 0), .int p] f (fun v9 f' => v9 = some (.int 0) ∧ RM G am (va_up sc 7 1) (ar) f' ∧ FrM am f f') 0 0 := by
  refine Ct.of (cc := cX6_state) (maxL := 2) (ret := (some .int)) (by decide) rfl (Nat.le_of_ble_eq_true rfl) (lv := [(0, _), (1, _)]) rfl (by simp [Value.category]) ?_
  intro K X hL hG hr hnm
  subst hL; subst hG
  have hF : FrM am f f := FrM.rf
  refine V_aload_n X rfl dX6_state_0 ?_
  refine V_iload_n X rfl dX6_state_1 ?_
  refine V_callV (kc' := 0) (ks' := 0) X (rest := _) (c_X6_isAsked_e _ _ _ am sc ar hR _ hq) hR.1 rfl gX6_state_X6_isAsked rfl hdv_X6_isAsked (Nat.le_of_ble_eq_true rfl) (Nat.le_of_ble_eq_true rfl) rfl (Nat.le_of_ble_eq_true rfl) (by omega) (by omega) dX6_state_2 (fun r f1 hq => ?_)
  obtain ⟨rfl, hR, hF1⟩ := hq
  have hF := hF.trans hF1
  refine V_if_eq X (tgt := 17) (by decide) dX6_state_5 (fun hc5 => ?_) (fun hc5 => absurd hc5 (by decide))
  refine V_iconst X (v := 0) (by decide) dX6_state_17 ?_
  exact V_iret X hr (⟨rfl, hR, hF⟩) dX6_state_18
theorem hinX6_state_X6 : ∀ w ∈ wsX60, w ∈ wsX6_state := by decide +kernel
set_option maxHeartbeats 4000000 in
set_option maxRecDepth 100000 in
theorem c_X6_state_0 (l : Launch) (G : GG) (f : Wo) (am : Nat → Nat) (sc : Nat → Int32) (ar : Nat → Nat → Int32) (hR : RM G am sc ar f) (k : Nat) (hk : k < 18) (hq : inI (nI k) 0 (sc 0 - 1) = true) : Ct l yX6_state wsX6_state 4 108 G [.ref (am 0), .int (nI k)] f (fun v9 f' => v9 = some (.int (ar 5 k)) ∧ RM G am (va_up sc 7 0) (ar) f' ∧ FrM am f f') 0 0 := by
  refine Ct.of (cc := cX6_state) (maxL := 2) (ret := (some .int)) (by decide) rfl (Nat.le_of_ble_eq_true rfl) (lv := [(0, _), (1, _)]) rfl (by simp [Value.category]) ?_
  intro K X hL hG hr hnm
  subst hL; subst hG
  have hF : FrM am f f := FrM.rf
  refine V_aload_n X rfl dX6_state_0 ?_
  refine V_iload_n X rfl dX6_state_1 ?_
  refine V_callV (kc' := 0) (ks' := 0) X (rest := _) (c_X6_isAsked_0 _ _ _ am sc ar hR _ hq) hR.1 rfl gX6_state_X6_isAsked rfl hdv_X6_isAsked (Nat.le_of_ble_eq_true rfl) (Nat.le_of_ble_eq_true rfl) rfl (Nat.le_of_ble_eq_true rfl) (by omega) (by omega) dX6_state_2 (fun r f1 hq => ?_)
  obtain ⟨rfl, hR, hF1⟩ := hq
  have hF := hF.trans hF1
  refine V_if_eq X (tgt := 17) (by decide) dX6_state_5 (fun hc5 => absurd hc5 (by decide)) (fun hc5 => ?_)
  refine V_aload_n X rfl dX6_state_8 ?_
  refine V_mget X hR (v := .ref (am 5)) 5 (by decide) hinX6_state_X6 (rfl) (by decide +kernel) rfl dX6_state_9 ?_
  refine V_iload_n X rfl dX6_state_12 ?_
  refine V_mald X hR 5 (k) 18 (by decide) rfl (by omega) (by decide) rfl dX6_state_13 ?_
  refine V_goto X (tgt := 18) (by decide) dX6_state_14 ?_
  exact V_iret X hr (⟨rfl, hR, hF⟩) dX6_state_18
set_option maxHeartbeats 4000000 in
set_option maxRecDepth 100000 in
theorem c_X6_rating_e (l : Launch) (G : GG) (f : Wo) (am : Nat → Nat) (sc : Nat → Int32) (ar : Nat → Nat → Int32) (hR : RM G am sc ar f) (p : Int32) (hq : inI p 0 (sc 0 - 1) = false) : Ct l yX6_rating wsX6_rating 4 108 G [.ref (am 0), .int p] f (fun v9 f' => v9 = some (.int 0) ∧ RM G am (va_up sc 7 1) (ar) f' ∧ FrM am f f') 0 0 := by
  refine Ct.of (cc := cX6_rating) (maxL := 2) (ret := (some .int)) (by decide) rfl (Nat.le_of_ble_eq_true rfl) (lv := [(0, _), (1, _)]) rfl (by simp [Value.category]) ?_
  intro K X hL hG hr hnm
  subst hL; subst hG
  have hF : FrM am f f := FrM.rf
  refine V_aload_n X rfl dX6_rating_0 ?_
  refine V_iload_n X rfl dX6_rating_1 ?_
  refine V_callV (kc' := 0) (ks' := 0) X (rest := _) (c_X6_isAsked_e _ _ _ am sc ar hR _ hq) hR.1 rfl gX6_rating_X6_isAsked rfl hdv_X6_isAsked (Nat.le_of_ble_eq_true rfl) (Nat.le_of_ble_eq_true rfl) rfl (Nat.le_of_ble_eq_true rfl) (by omega) (by omega) dX6_rating_2 (fun r f1 hq => ?_)
  obtain ⟨rfl, hR, hF1⟩ := hq
  have hF := hF.trans hF1
  refine V_if_eq X (tgt := 17) (by decide) dX6_rating_5 (fun hc5 => ?_) (fun hc5 => absurd hc5 (by decide))
  refine V_iconst X (v := 0) (by decide) dX6_rating_17 ?_
  exact V_iret X hr (⟨rfl, hR, hF⟩) dX6_rating_18
theorem hinX6_rating_X6 : ∀ w ∈ wsX60, w ∈ wsX6_rating := by decide +kernel
set_option maxHeartbeats 4000000 in
set_option maxRecDepth 100000 in
theorem c_X6_rating_0 (l : Launch) (G : GG) (f : Wo) (am : Nat → Nat) (sc : Nat → Int32) (ar : Nat → Nat → Int32) (hR : RM G am sc ar f) (k : Nat) (hk : k < 18) (hq : inI (nI k) 0 (sc 0 - 1) = true) : Ct l yX6_rating wsX6_rating 4 108 G [.ref (am 0), .int (nI k)] f (fun v9 f' => v9 = some (.int (ar 1 k)) ∧ RM G am (va_up sc 7 0) (ar) f' ∧ FrM am f f') 0 0 := by
  refine Ct.of (cc := cX6_rating) (maxL := 2) (ret := (some .int)) (by decide) rfl (Nat.le_of_ble_eq_true rfl) (lv := [(0, _), (1, _)]) rfl (by simp [Value.category]) ?_
  intro K X hL hG hr hnm
  subst hL; subst hG
  have hF : FrM am f f := FrM.rf
  refine V_aload_n X rfl dX6_rating_0 ?_
  refine V_iload_n X rfl dX6_rating_1 ?_
  refine V_callV (kc' := 0) (ks' := 0) X (rest := _) (c_X6_isAsked_0 _ _ _ am sc ar hR _ hq) hR.1 rfl gX6_rating_X6_isAsked rfl hdv_X6_isAsked (Nat.le_of_ble_eq_true rfl) (Nat.le_of_ble_eq_true rfl) rfl (Nat.le_of_ble_eq_true rfl) (by omega) (by omega) dX6_rating_2 (fun r f1 hq => ?_)
  obtain ⟨rfl, hR, hF1⟩ := hq
  have hF := hF.trans hF1
  refine V_if_eq X (tgt := 17) (by decide) dX6_rating_5 (fun hc5 => absurd hc5 (by decide)) (fun hc5 => ?_)
  refine V_aload_n X rfl dX6_rating_8 ?_
  refine V_mget X hR (v := .ref (am 1)) 1 (by decide) hinX6_rating_X6 (rfl) (by decide +kernel) rfl dX6_rating_9 ?_
  refine V_iload_n X rfl dX6_rating_12 ?_
  refine V_mald X hR 1 (k) 18 (by decide) rfl (by omega) (by decide) rfl dX6_rating_13 ?_
  refine V_goto X (tgt := 18) (by decide) dX6_rating_14 ?_
  exact V_iret X hr (⟨rfl, hR, hF⟩) dX6_rating_18
set_option maxHeartbeats 4000000 in
set_option maxRecDepth 100000 in
theorem c_X6_uncertainty_e (l : Launch) (G : GG) (f : Wo) (am : Nat → Nat) (sc : Nat → Int32) (ar : Nat → Nat → Int32) (hR : RM G am sc ar f) (p : Int32) (hq : inI p 0 (sc 0 - 1) = false) : Ct l yX6_uncertainty wsX6_uncertainty 4 108 G [.ref (am 0), .int p] f (fun v9 f' => v9 = some (.int 0) ∧ RM G am (va_up sc 7 1) (ar) f' ∧ FrM am f f') 0 0 := by
  refine Ct.of (cc := cX6_uncertainty) (maxL := 2) (ret := (some .int)) (by decide) rfl (Nat.le_of_ble_eq_true rfl) (lv := [(0, _), (1, _)]) rfl (by simp [Value.category]) ?_
  intro K X hL hG hr hnm
  subst hL; subst hG
  have hF : FrM am f f := FrM.rf
  refine V_aload_n X rfl dX6_uncertainty_0 ?_
  refine V_iload_n X rfl dX6_uncertainty_1 ?_
  refine V_callV (kc' := 0) (ks' := 0) X (rest := _) (c_X6_isAsked_e _ _ _ am sc ar hR _ hq) hR.1 rfl gX6_uncertainty_X6_isAsked rfl hdv_X6_isAsked (Nat.le_of_ble_eq_true rfl) (Nat.le_of_ble_eq_true rfl) rfl (Nat.le_of_ble_eq_true rfl) (by omega) (by omega) dX6_uncertainty_2 (fun r f1 hq => ?_)
  obtain ⟨rfl, hR, hF1⟩ := hq
  have hF := hF.trans hF1
  refine V_if_eq X (tgt := 17) (by decide) dX6_uncertainty_5 (fun hc5 => ?_) (fun hc5 => absurd hc5 (by decide))
  refine V_iconst X (v := 0) (by decide) dX6_uncertainty_17 ?_
  exact V_iret X hr (⟨rfl, hR, hF⟩) dX6_uncertainty_18
theorem hinX6_uncertainty_X6 : ∀ w ∈ wsX60, w ∈ wsX6_uncertainty := by decide +kernel
set_option maxHeartbeats 4000000 in
set_option maxRecDepth 100000 in
theorem c_X6_uncertainty_0 (l : Launch) (G : GG) (f : Wo) (am : Nat → Nat) (sc : Nat → Int32) (ar : Nat → Nat → Int32) (hR : RM G am sc ar f) (k : Nat) (hk : k < 18) (hq : inI (nI k) 0 (sc 0 - 1) = true) : Ct l yX6_uncertainty wsX6_uncertainty 4 108 G [.ref (am 0), .int (nI k)] f (fun v9 f' => v9 = some (.int (ar 2 k)) ∧ RM G am (va_up sc 7 0) (ar) f' ∧ FrM am f f') 0 0 := by
  refine Ct.of (cc := cX6_uncertainty) (maxL := 2) (ret := (some .int)) (by decide) rfl (Nat.le_of_ble_eq_true rfl) (lv := [(0, _), (1, _)]) rfl (by simp [Value.category]) ?_
  intro K X hL hG hr hnm
  subst hL; subst hG
  have hF : FrM am f f := FrM.rf
  refine V_aload_n X rfl dX6_uncertainty_0 ?_
  refine V_iload_n X rfl dX6_uncertainty_1 ?_
  refine V_callV (kc' := 0) (ks' := 0) X (rest := _) (c_X6_isAsked_0 _ _ _ am sc ar hR _ hq) hR.1 rfl gX6_uncertainty_X6_isAsked rfl hdv_X6_isAsked (Nat.le_of_ble_eq_true rfl) (Nat.le_of_ble_eq_true rfl) rfl (Nat.le_of_ble_eq_true rfl) (by omega) (by omega) dX6_uncertainty_2 (fun r f1 hq => ?_)
  obtain ⟨rfl, hR, hF1⟩ := hq
  have hF := hF.trans hF1
  refine V_if_eq X (tgt := 17) (by decide) dX6_uncertainty_5 (fun hc5 => absurd hc5 (by decide)) (fun hc5 => ?_)
  refine V_aload_n X rfl dX6_uncertainty_8 ?_
  refine V_mget X hR (v := .ref (am 2)) 2 (by decide) hinX6_uncertainty_X6 (rfl) (by decide +kernel) rfl dX6_uncertainty_9 ?_
  refine V_iload_n X rfl dX6_uncertainty_12 ?_
  refine V_mald X hR 2 (k) 18 (by decide) rfl (by omega) (by decide) rfl dX6_uncertainty_13 ?_
  refine V_goto X (tgt := 18) (by decide) dX6_uncertainty_14 ?_
  exact V_iret X hr (⟨rfl, hR, hF⟩) dX6_uncertainty_18
set_option maxHeartbeats 4000000 in
set_option maxRecDepth 100000 in
theorem c_X6_level_e (l : Launch) (G : GG) (f : Wo) (am : Nat → Nat) (sc : Nat → Int32) (ar : Nat → Nat → Int32) (hR : RM G am sc ar f) (p : Int32) (hq : inI p 0 (sc 0 - 1) = false) : Ct l yX6_level wsX6_level 4 108 G [.ref (am 0), .int p] f (fun v9 f' => v9 = some (.int 0) ∧ RM G am (va_up sc 7 1) (ar) f' ∧ FrM am f f') 0 0 := by
  refine Ct.of (cc := cX6_level) (maxL := 2) (ret := (some .int)) (by decide) rfl (Nat.le_of_ble_eq_true rfl) (lv := [(0, _), (1, _)]) rfl (by simp [Value.category]) ?_
  intro K X hL hG hr hnm
  subst hL; subst hG
  have hF : FrM am f f := FrM.rf
  refine V_aload_n X rfl dX6_level_0 ?_
  refine V_iload_n X rfl dX6_level_1 ?_
  refine V_callV (kc' := 0) (ks' := 0) X (rest := _) (c_X6_isAsked_e _ _ _ am sc ar hR _ hq) hR.1 rfl gX6_level_X6_isAsked rfl hdv_X6_isAsked (Nat.le_of_ble_eq_true rfl) (Nat.le_of_ble_eq_true rfl) rfl (Nat.le_of_ble_eq_true rfl) (by omega) (by omega) dX6_level_2 (fun r f1 hq => ?_)
  obtain ⟨rfl, hR, hF1⟩ := hq
  have hF := hF.trans hF1
  refine V_if_eq X (tgt := 17) (by decide) dX6_level_5 (fun hc5 => ?_) (fun hc5 => absurd hc5 (by decide))
  refine V_iconst X (v := 0) (by decide) dX6_level_17 ?_
  exact V_iret X hr (⟨rfl, hR, hF⟩) dX6_level_18
theorem hinX6_level_X6 : ∀ w ∈ wsX60, w ∈ wsX6_level := by decide +kernel
set_option maxHeartbeats 4000000 in
set_option maxRecDepth 100000 in
theorem c_X6_level_0 (l : Launch) (G : GG) (f : Wo) (am : Nat → Nat) (sc : Nat → Int32) (ar : Nat → Nat → Int32) (hR : RM G am sc ar f) (k : Nat) (hk : k < 18) (hq : inI (nI k) 0 (sc 0 - 1) = true) : Ct l yX6_level wsX6_level 4 108 G [.ref (am 0), .int (nI k)] f (fun v9 f' => v9 = some (.int (ar 4 k)) ∧ RM G am (va_up sc 7 0) (ar) f' ∧ FrM am f f') 0 0 := by
  refine Ct.of (cc := cX6_level) (maxL := 2) (ret := (some .int)) (by decide) rfl (Nat.le_of_ble_eq_true rfl) (lv := [(0, _), (1, _)]) rfl (by simp [Value.category]) ?_
  intro K X hL hG hr hnm
  subst hL; subst hG
  have hF : FrM am f f := FrM.rf
  refine V_aload_n X rfl dX6_level_0 ?_
  refine V_iload_n X rfl dX6_level_1 ?_
  refine V_callV (kc' := 0) (ks' := 0) X (rest := _) (c_X6_isAsked_0 _ _ _ am sc ar hR _ hq) hR.1 rfl gX6_level_X6_isAsked rfl hdv_X6_isAsked (Nat.le_of_ble_eq_true rfl) (Nat.le_of_ble_eq_true rfl) rfl (Nat.le_of_ble_eq_true rfl) (by omega) (by omega) dX6_level_2 (fun r f1 hq => ?_)
  obtain ⟨rfl, hR, hF1⟩ := hq
  have hF := hF.trans hF1
  refine V_if_eq X (tgt := 17) (by decide) dX6_level_5 (fun hc5 => absurd hc5 (by decide)) (fun hc5 => ?_)
  refine V_aload_n X rfl dX6_level_8 ?_
  refine V_mget X hR (v := .ref (am 4)) 4 (by decide) hinX6_level_X6 (rfl) (by decide +kernel) rfl dX6_level_9 ?_
  refine V_iload_n X rfl dX6_level_12 ?_
  refine V_mald X hR 4 (k) 18 (by decide) rfl (by omega) (by decide) rfl dX6_level_13 ?_
  refine V_goto X (tgt := 18) (by decide) dX6_level_14 ?_
  exact V_iret X hr (⟨rfl, hR, hF⟩) dX6_level_18
set_option maxHeartbeats 4000000 in
set_option maxRecDepth 100000 in
theorem c_X6_barred_e (l : Launch) (G : GG) (f : Wo) (am : Nat → Nat) (sc : Nat → Int32) (ar : Nat → Nat → Int32) (hR : RM G am sc ar f) (p : Int32) (hq : inI p 0 (sc 0 - 1) = false) : Ct l yX6_barred wsX6_barred 4 108 G [.ref (am 0), .int p] f (fun v9 f' => v9 = some (.int 0) ∧ RM G am (va_up sc 7 1) (ar) f' ∧ FrM am f f') 0 0 := by
  refine Ct.of (cc := cX6_barred) (maxL := 2) (ret := (some .int)) (by decide) rfl (Nat.le_of_ble_eq_true rfl) (lv := [(0, _), (1, _)]) rfl (by simp [Value.category]) ?_
  intro K X hL hG hr hnm
  subst hL; subst hG
  have hF : FrM am f f := FrM.rf
  refine V_aload_n X rfl dX6_barred_0 ?_
  refine V_iload_n X rfl dX6_barred_1 ?_
  refine V_callV (kc' := 0) (ks' := 0) X (rest := _) (c_X6_isAsked_e _ _ _ am sc ar hR _ hq) hR.1 rfl gX6_barred_X6_isAsked rfl hdv_X6_isAsked (Nat.le_of_ble_eq_true rfl) (Nat.le_of_ble_eq_true rfl) rfl (Nat.le_of_ble_eq_true rfl) (by omega) (by omega) dX6_barred_2 (fun r f1 hq => ?_)
  obtain ⟨rfl, hR, hF1⟩ := hq
  have hF := hF.trans hF1
  refine V_if_eq X (tgt := 35) (by decide) dX6_barred_5 (fun hc5 => ?_) (fun hc5 => absurd hc5 (by decide))
  refine V_iconst X (v := 0) (by decide) dX6_barred_35 ?_
  exact V_iret X hr (⟨rfl, hR, hF⟩) dX6_barred_36
theorem hinX6_barred_X6 : ∀ w ∈ wsX60, w ∈ wsX6_barred := by decide +kernel
set_option maxHeartbeats 4000000 in
set_option maxRecDepth 100000 in
theorem c_X6_barred_0 (l : Launch) (G : GG) (f : Wo) (am : Nat → Nat) (sc : Nat → Int32) (ar : Nat → Nat → Int32) (hR : RM G am sc ar f) (k : Nat) (hk : k < 18) (hq : inI (nI k) 0 (sc 0 - 1) = true) : Ct l yX6_barred wsX6_barred 4 108 G [.ref (am 0), .int (nI k)] f (fun v9 f' => v9 = some (.int (if ar 6 k ≤ sc 3 then 0 else ar 6 k - sc 3)) ∧ RM G am (va_up sc 7 0) (ar) f' ∧ FrM am f f') 0 0 := by
  refine Ct.of (cc := cX6_barred) (maxL := 2) (ret := (some .int)) (by decide) rfl (Nat.le_of_ble_eq_true rfl) (lv := [(0, _), (1, _)]) rfl (by simp [Value.category]) ?_
  intro K X hL hG hr hnm
  subst hL; subst hG
  have hF : FrM am f f := FrM.rf
  refine V_aload_n X rfl dX6_barred_0 ?_
  refine V_iload_n X rfl dX6_barred_1 ?_
  refine V_callV (kc' := 0) (ks' := 0) X (rest := _) (c_X6_isAsked_0 _ _ _ am sc ar hR _ hq) hR.1 rfl gX6_barred_X6_isAsked rfl hdv_X6_isAsked (Nat.le_of_ble_eq_true rfl) (Nat.le_of_ble_eq_true rfl) rfl (Nat.le_of_ble_eq_true rfl) (by omega) (by omega) dX6_barred_2 (fun r f1 hq => ?_)
  obtain ⟨rfl, hR, hF1⟩ := hq
  have hF := hF.trans hF1
  refine V_if_eq X (tgt := 35) (by decide) dX6_barred_5 (fun hc5 => absurd hc5 (by decide)) (fun hc5 => ?_)
  refine V_aload_n X rfl dX6_barred_8 ?_
  refine V_mget X hR (v := .ref (am 6)) 6 (by decide) hinX6_barred_X6 (rfl) (by decide +kernel) rfl dX6_barred_9 ?_
  refine V_iload_n X rfl dX6_barred_12 ?_
  refine V_mald X hR 6 (k) 18 (by decide) rfl (by omega) (by decide) rfl dX6_barred_13 ?_
  refine V_aload_n X rfl dX6_barred_14 ?_
  refine V_mget X hR (v := .int (sc 3)) 18 (by decide) hinX6_barred_X6 (congrArg (fun z => some (Value.int z)) (rfl)) (by decide +kernel) rfl dX6_barred_15 ?_
  refine V_icmp_le X (tgt := 35) (by decide) dX6_barred_18 (fun hc18 => ?_) (fun hc18 => ?_)
  · refine V_iconst X (v := 0) (by decide) dX6_barred_35 ?_
    exact V_iret X hr (⟨congrArg (fun z => some (Value.int z)) (if_pos hc18).symm, hR, hF⟩) dX6_barred_36
  · refine V_aload_n X rfl dX6_barred_21 ?_
    refine V_mget X hR (v := .ref (am 6)) 6 (by decide) hinX6_barred_X6 (rfl) (by decide +kernel) rfl dX6_barred_22 ?_
    refine V_iload_n X rfl dX6_barred_25 ?_
    refine V_mald X hR 6 (k) 18 (by decide) rfl (by omega) (by decide) rfl dX6_barred_26 ?_
    refine V_aload_n X rfl dX6_barred_27 ?_
    refine V_mget X hR (v := .int (sc 3)) 18 (by decide) hinX6_barred_X6 (congrArg (fun z => some (Value.int z)) (rfl)) (by decide +kernel) rfl dX6_barred_28 ?_
    refine V_isub X dX6_barred_31 ?_
    refine V_goto X (tgt := 36) (by decide) dX6_barred_32 ?_
    exact V_iret X hr (⟨congrArg (fun z => some (Value.int z)) (if_neg hc18).symm, hR, hF⟩) dX6_barred_36
def becF (n : Nat) (s x : Int32) (g : Nat → Int32) : Nat → Int32 := fun k => if k < n ∧ hsI s (nI k) = true then x else g k
theorem becF_0 (s x : Int32) (g : Nat → Int32) : becF 0 s x g = g := funext fun k => if_neg (fun h => absurd h.1 (Nat.not_lt_zero k))
theorem becF_t {i : Nat} {s x : Int32} {g : Nat → Int32} (h : hsI s (nI i) = true) : va_up (becF i s x g) i x = becF (i + 1) s x g := by
  funext k
  unfold va_up becF
  by_cases hk : k = i
  · subst hk
    rw [if_pos rfl, if_pos ⟨Nat.lt_succ_self k, h⟩]
  · rw [if_neg hk]
    by_cases h2 : k < i ∧ hsI s (nI k) = true
    · rw [if_pos h2, if_pos ⟨by omega, h2.2⟩]
    · rw [if_neg h2, if_neg (fun h3 => h2 ⟨by omega, h3.2⟩)]
theorem becF_f {i : Nat} {s x : Int32} {g : Nat → Int32} (h : hsI s (nI i) = false) : va_up (becF i s x g) i (g i) = becF (i + 1) s x g := by
  funext k
  unfold va_up becF
  by_cases hk : k = i
  · subst hk
    rw [if_pos rfl, if_neg (fun h3 => by rw [h] at h3; cases h3.2)]
  · rw [if_neg hk]
    by_cases h2 : k < i ∧ hsI s (nI k) = true
    · rw [if_pos h2, if_pos ⟨by omega, h2.2⟩]
    · rw [if_neg h2, if_neg (fun h3 => h2 ⟨by omega, h3.2⟩)]
theorem becF_i {i : Nat} {s x : Int32} {g : Nat → Int32} : becF i s x g i = g i := if_neg (fun h => absurd h.1 (Nat.lt_irrefl i))
theorem va_up_up {α : Type} (f : Nat → α) (k : Nat) (v w : α) : va_up (va_up f k v) k w = va_up f k w := by
  funext j
  unfold va_up
  by_cases h : j = k
  · rw [if_pos h, if_pos h]
  · rw [if_neg h, if_neg h, if_neg h]
theorem va_up_id {α : Type} (f : Nat → α) (k : Nat) : va_up f k (f k) = f := by
  funext j
  unfold va_up
  by_cases h : j = k
  · rw [if_pos h, h]
  · rw [if_neg h]

theorem hinX6_become_X6 : ∀ w ∈ wsX60, w ∈ wsX6_become := by decide +kernel
set_option maxHeartbeats 4000000 in
set_option maxRecDepth 100000 in
theorem c_X6_become (l : Launch) (G : GG) (f : Wo) (am : Nat → Nat) (sc : Nat → Int32) (ar : Nat → Nat → Int32) (hR : RM G am sc ar f) (np : Nat) (hnp : sc 0 = nI np) (hp18 : np ≤ 18) (s x : Int32) : Ct l yX6_become wsX6_become 2 65 G [.ref (am 0), .int s, .int x] f (fun v9 f' => v9 = none ∧ RM G am (sc) (va_up ar 5 (becF np s x (ar 5))) f' ∧ FrM am f f') 0 0 := by
  refine Ct.of (cc := cX6_become) (maxL := 4) (ret := none) (by decide) rfl (Nat.le_of_ble_eq_true rfl) (lv := [(0, _), (1, _), (2, _)]) rfl (by simp [Value.category]) ?_
  intro K X hL hG hr hnm
  subst hL; subst hG
  have hF : FrM am f f := FrM.rf
  have L : ∀ (n i : Nat), np - i = n → i ≤ np → ∀ fw : Wo, RM (kG K) am sc (va_up ar 5 (becF i s x (ar 5))) fw → FrM am f fw → V K fw 0 0 2 [(0, .ref (am 0)), (1, .int s), (2, .int x), (3, .int (nI i))] [] := by
    intro n
    induction n using Nat.strongRecOn with
    | ind n ih =>
      intro i hn hi f hR hF
      refine V_iload_n X rfl dX6_become_2 ?_
      refine V_aload_n X rfl dX6_become_3 ?_
      refine V_mget X hR (v := .int (nI np)) 0 (by decide) hinX6_become_X6 (congrArg (fun z => some (Value.int z)) (hnp)) (by decide +kernel) rfl dX6_become_4 ?_
      refine V_icmp_ge X (tgt := 40) (by decide) dX6_become_7 (fun hc7 => ?_) (fun hc7 => ?_)
      · have hi18 := lim_ge (N := np) rfl hc7 hi (by omega)
        subst hi18
        exact V_vret X hr (⟨rfl, hR, hF⟩) dX6_become_40
      · have hlt := lim_lt (N := np) rfl hc7 hi (by omega)
        refine V_aload_n X rfl dX6_become_10 ?_
        refine V_mget X hR (v := .ref (am 5)) 5 (by decide) hinX6_become_X6 (rfl) (by decide +kernel) rfl dX6_become_11 ?_
        refine V_iload_n X rfl dX6_become_14 ?_
        refine V_iload_n X rfl dX6_become_15 ?_
        refine V_iload_n X rfl dX6_become_16 ?_
        refine V_callSp X (rest := _) (c_X6_has _ _ _ _ _) gX6_become_X6_has rfl hds_X6_has (Nat.le_of_ble_eq_true rfl) (Nat.le_of_ble_eq_true rfl) rfl (Nat.le_of_ble_eq_true rfl) dX6_become_17 ?_
        refine V_if_eq X (tgt := 27) (by decide) dX6_become_20 (fun hc20 => ?_) (fun hc20 => ?_)
        · refine V_aload_n X rfl dX6_become_27 ?_
          refine V_mget X hR (v := .ref (am 5)) 5 (by decide) hinX6_become_X6 (rfl) (by decide +kernel) rfl dX6_become_28 ?_
          refine V_iload_n X rfl dX6_become_31 ?_
          refine V_mald X hR 5 (i) 18 (by decide) rfl (by omega) (by decide) (w := ar 5 i) (by rw [va_up_self]; exact becF_i) dX6_become_32 ?_
          refine V_mast X hR hF 5 (i) 18 (by decide) rfl (by omega) (by decide) dX6_become_33 (fun f hR hF => ?_)
          have hR : RM (kG K) am sc (va_up ar 5 (becF (i + 1) s x (ar 5))) f := by
            rw [va_up_up, va_up_self] at hR
            have e := becF_f (s := s) (x := x) (g := ar 5) (bI_eq0 hc20)
            rw [e] at hR
            exact hR
          refine V_iinc X (lv' := [(3, _), (0, _), (1, _), (2, _)]) (v := nI (i + 1)) rfl (nI_1 _) (by decide) rfl dX6_become_34 ?_
          refine V_goto X (tgt := 2) (by decide) dX6_become_37 ?_
          refine V.lvs (lv' := [(0, _), (1, _), (2, _), (3, _)]) rfl ?_
          exact ih (np - (i + 1)) (by omega) (i + 1) rfl (by omega) _ hR hF
        · refine V_iload_n X rfl dX6_become_23 ?_
          refine V_goto X (tgt := 33) (by decide) dX6_become_24 ?_
          refine V_mast X hR hF 5 (i) 18 (by decide) rfl (by omega) (by decide) dX6_become_33 (fun f hR hF => ?_)
          have hR : RM (kG K) am sc (va_up ar 5 (becF (i + 1) s x (ar 5))) f := by
            rw [va_up_up, va_up_self] at hR
            have e := becF_t (s := s) (x := x) (g := ar 5) (bI_ne0 hc20)
            rw [e] at hR
            exact hR
          refine V_iinc X (lv' := [(3, _), (0, _), (1, _), (2, _)]) (v := nI (i + 1)) rfl (nI_1 _) (by decide) rfl dX6_become_34 ?_
          refine V_goto X (tgt := 2) (by decide) dX6_become_37 ?_
          refine V.lvs (lv' := [(0, _), (1, _), (2, _), (3, _)]) rfl ?_
          exact ih (np - (i + 1)) (by omega) (i + 1) rfl (by omega) _ hR hF
  refine V_iconst X (v := 0) (by decide) dX6_become_0 ?_
  refine V_istore_n X (lv' := [(3, _), (0, _), (1, _), (2, _)]) (by decide) rfl dX6_become_1 ?_
  refine V.lvs (lv' := [(0, _), (1, _), (2, _), (3, _)]) rfl ?_
  exact L np 0 (by omega) (by omega) f (by rw [becF_0, va_up_id]; exact hR) hF
