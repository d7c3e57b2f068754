/-! ===== the law: its small statics ===== -/
theorem hds_L_answers : yL_answers.cls ≠ "java/lang/invoke/MethodHandle" ∧ yL_answers.cls ≠ "java/lang/invoke/VarHandle" ∧ (parseMethodDescriptor yL_answers.desc).map (fun d => d.parameters.length) = some 9 := by decide +kernel
theorem hds_L_asks : yL_asks.cls ≠ "java/lang/invoke/MethodHandle" ∧ yL_asks.cls ≠ "java/lang/invoke/VarHandle" ∧ (parseMethodDescriptor yL_asks.desc).map (fun d => d.parameters.length) = some 4 := by decide +kernel
theorem hds_L_bar : yL_bar.cls ≠ "java/lang/invoke/MethodHandle" ∧ yL_bar.cls ≠ "java/lang/invoke/VarHandle" ∧ (parseMethodDescriptor yL_bar.desc).map (fun d => d.parameters.length) = some 5 := by decide +kernel
theorem hds_L_draw : yL_draw.cls ≠ "java/lang/invoke/MethodHandle" ∧ yL_draw.cls ≠ "java/lang/invoke/VarHandle" ∧ (parseMethodDescriptor yL_draw.desc).map (fun d => d.parameters.length) = some 3 := by decide +kernel
theorem hds_L_ends : yL_ends.cls ≠ "java/lang/invoke/MethodHandle" ∧ yL_ends.cls ≠ "java/lang/invoke/VarHandle" ∧ (parseMethodDescriptor yL_ends.desc).map (fun d => d.parameters.length) = some 5 := by decide +kernel
theorem hds_L_finishes : yL_finishes.cls ≠ "java/lang/invoke/MethodHandle" ∧ yL_finishes.cls ≠ "java/lang/invoke/VarHandle" ∧ (parseMethodDescriptor yL_finishes.desc).map (fun d => d.parameters.length) = some 3 := by decide +kernel
theorem hds_L_fit : yL_fit.cls ≠ "java/lang/invoke/MethodHandle" ∧ yL_fit.cls ≠ "java/lang/invoke/VarHandle" ∧ (parseMethodDescriptor yL_fit.desc).map (fun d => d.parameters.length) = some 5 := by decide +kernel
theorem hds_L_free : yL_free.cls ≠ "java/lang/invoke/MethodHandle" ∧ yL_free.cls ≠ "java/lang/invoke/VarHandle" ∧ (parseMethodDescriptor yL_free.desc).map (fun d => d.parameters.length) = some 5 := by decide +kernel
theorem hds_L_has : yL_has.cls ≠ "java/lang/invoke/MethodHandle" ∧ yL_has.cls ≠ "java/lang/invoke/VarHandle" ∧ (parseMethodDescriptor yL_has.desc).map (fun d => d.parameters.length) = some 2 := by decide +kernel
theorem hds_L_isLobby : yL_isLobby.cls ≠ "java/lang/invoke/MethodHandle" ∧ yL_isLobby.cls ≠ "java/lang/invoke/VarHandle" ∧ (parseMethodDescriptor yL_isLobby.desc).map (fun d => d.parameters.length) = some 6 := by decide +kernel
theorem hds_L_isMatch : yL_isMatch.cls ≠ "java/lang/invoke/MethodHandle" ∧ yL_isMatch.cls ≠ "java/lang/invoke/VarHandle" ∧ (parseMethodDescriptor yL_isMatch.desc).map (fun d => d.parameters.length) = some 5 := by decide +kernel
theorem hds_L_isTeam : yL_isTeam.cls ≠ "java/lang/invoke/MethodHandle" ∧ yL_isTeam.cls ≠ "java/lang/invoke/VarHandle" ∧ (parseMethodDescriptor yL_isTeam.desc).map (fun d => d.parameters.length) = some 2 := by decide +kernel
theorem hds_L_lobby : yL_lobby.cls ≠ "java/lang/invoke/MethodHandle" ∧ yL_lobby.cls ≠ "java/lang/invoke/VarHandle" ∧ (parseMethodDescriptor yL_lobby.desc).map (fun d => d.parameters.length) = some 2 := by decide +kernel
theorem hds_L_makes : yL_makes.cls ≠ "java/lang/invoke/MethodHandle" ∧ yL_makes.cls ≠ "java/lang/invoke/VarHandle" ∧ (parseMethodDescriptor yL_makes.desc).map (fun d => d.parameters.length) = some 5 := by decide +kernel
theorem hds_L_passes : yL_passes.cls ≠ "java/lang/invoke/MethodHandle" ∧ yL_passes.cls ≠ "java/lang/invoke/VarHandle" ∧ (parseMethodDescriptor yL_passes.desc).map (fun d => d.parameters.length) = some 8 := by decide +kernel
theorem hds_L_players : yL_players.cls ≠ "java/lang/invoke/MethodHandle" ∧ yL_players.cls ≠ "java/lang/invoke/VarHandle" ∧ (parseMethodDescriptor yL_players.desc).map (fun d => d.parameters.length) = some 2 := by decide +kernel
theorem hds_L_queueing : yL_queueing.cls ≠ "java/lang/invoke/MethodHandle" ∧ yL_queueing.cls ≠ "java/lang/invoke/VarHandle" ∧ (parseMethodDescriptor yL_queueing.desc).map (fun d => d.parameters.length) = some 5 := by decide +kernel
theorem hds_L_queues : yL_queues.cls ≠ "java/lang/invoke/MethodHandle" ∧ yL_queues.cls ≠ "java/lang/invoke/VarHandle" ∧ (parseMethodDescriptor yL_queues.desc).map (fun d => d.parameters.length) = some 2 := by decide +kernel
theorem hds_L_since : yL_since.cls ≠ "java/lang/invoke/MethodHandle" ∧ yL_since.cls ≠ "java/lang/invoke/VarHandle" ∧ (parseMethodDescriptor yL_since.desc).map (fun d => d.parameters.length) = some 2 := by decide +kernel
theorem hds_L_size : yL_size.cls ≠ "java/lang/invoke/MethodHandle" ∧ yL_size.cls ≠ "java/lang/invoke/VarHandle" ∧ (parseMethodDescriptor yL_size.desc).map (fun d => d.parameters.length) = some 1 := by decide +kernel
theorem hds_L_step : yL_step.cls ≠ "java/lang/invoke/MethodHandle" ∧ yL_step.cls ≠ "java/lang/invoke/VarHandle" ∧ (parseMethodDescriptor yL_step.desc).map (fun d => d.parameters.length) = some 11 := by decide +kernel
theorem hds_L_sum : yL_sum.cls ≠ "java/lang/invoke/MethodHandle" ∧ yL_sum.cls ≠ "java/lang/invoke/VarHandle" ∧ (parseMethodDescriptor yL_sum.desc).map (fun d => d.parameters.length) = some 2 := by decide +kernel
theorem hds_L_wins : yL_wins.cls ≠ "java/lang/invoke/MethodHandle" ∧ yL_wins.cls ≠ "java/lang/invoke/VarHandle" ∧ (parseMethodDescriptor yL_wins.desc).map (fun d => d.parameters.length) = some 6 := by decide +kernel
set_option maxHeartbeats 4000000 in
set_option maxRecDepth 100000 in
theorem c_L_draw (l : Launch) (G : GG) (f : Wo) (k M : Nat) (hk : k ≤ 1000) (hM : 0 < M) (hM2 : M ≤ 1073741824) : Ct l yL_draw wsL_draw 1 44 G [.ref (gB G), .int (nI k), .int (nI M)] f (fun r f' => (∃ x, x < M ∧ r = some (.int (nI x))) ∧ f' = f) 0 0 := by
  refine Ct.of (cc := cL_draw) (maxL := 4) (ret := (some .int)) (by decide) rfl (Nat.le_of_ble_eq_true rfl) (lv := [(0, _), (1, _), (2, _)]) rfl (by simp [Value.category]) ?_
  intro K X hL hG hr hnm
  subst hL; subst hG
  have hL9 := X.kK.2.2.2.1
  refine V_iload_n X rfl dL_draw_0 ?_
  refine V_aload_n X rfl dL_draw_1 ?_
  refine V_slen X dL_draw_2 ?_
  refine V_icmp_ge X (tgt := 12) (by decide) dL_draw_3 (fun hc3 => ?_) (fun hc3 => ?_)
  · refine V_ldc X (v := 987219433) (by decide +kernel) dL_draw_12 ?_
    refine V_iload_n X rfl dL_draw_14 ?_
    refine V_sipush X (v := 163) (by decide) dL_draw_15 ?_
    refine V_iadd X dL_draw_18 ?_
    refine V_imul X dL_draw_19 ?_
    refine V_ldc X (v := 968225239) (by decide +kernel) dL_draw_20 ?_
    refine V_iadd X dL_draw_22 ?_
    refine V_istore_n X (lv' := [(3, _), (0, _), (1, _), (2, _)]) (by decide) rfl dL_draw_23 ?_
    refine V_iload_n X rfl dL_draw_24 ?_
    refine V_ldc X (v := 2147483647) (by decide +kernel) dL_draw_25 ?_
    refine V_iand X dL_draw_27 ?_
    refine V_iload_n X rfl dL_draw_28 ?_
    refine V_irem X (nI_ne0 hM (by omega)) dL_draw_29 ?_
    exact V_iret X hr (⟨by obtain ⟨j, hj, he⟩ := pk_andE _ (m := 2147483647) 31 (by decide +kernel); refine ⟨j % M, Nat.mod_lt _ hM, ?_⟩; rw [he, pk_rem (by omega) hM (by omega)], rfl⟩) dL_draw_30
  · refine V_aload_n X rfl dL_draw_6 ?_
    refine V_iload_n X rfl dL_draw_7 ?_
    refine V_sld X (vp_in_nI (Nat.lt_of_not_le fun q => hc3 (nI_le q (by omega))) (by omega)) dL_draw_8 ?_
    refine V_goto X (tgt := 23) (by decide) dL_draw_9 ?_
    refine V_istore_n X (lv' := [(3, _), (0, _), (1, _), (2, _)]) (by decide) rfl dL_draw_23 ?_
    refine V_iload_n X rfl dL_draw_24 ?_
    refine V_ldc X (v := 2147483647) (by decide +kernel) dL_draw_25 ?_
    refine V_iand X dL_draw_27 ?_
    refine V_iload_n X rfl dL_draw_28 ?_
    refine V_irem X (nI_ne0 hM (by omega)) dL_draw_29 ?_
    exact V_iret X hr (⟨by obtain ⟨j, hj, he⟩ := pk_andE _ (m := 2147483647) 31 (by decide +kernel); refine ⟨j % M, Nat.mod_lt _ hM, ?_⟩; rw [he, pk_rem (by omega) hM (by omega)], rfl⟩) dL_draw_30
set_option maxHeartbeats 4000000 in
set_option maxRecDepth 100000 in
theorem c_L_has (l : Launch) (G : GG) (f : Wo) (s k : Int32) : Cp l yL_has wsL_has 1 44 G [.int s, .int k] f (.int (bI (hsI s k))) := by
  refine Ct.of (cc := cL_has) (maxL := 2) (ret := (some .boolean)) (by decide) rfl (Nat.le_of_ble_eq_true rfl) (lv := [(0, _), (1, _)]) rfl (by simp [Value.category]) ?_
  intro K X hL hG hr hnm
  subst hL; subst hG
  refine V_iload_n X rfl dL_has_0 ?_
  refine V_iload_n X rfl dL_has_1 ?_
  refine V_ishr X dL_has_2 ?_
  refine V_iconst X (v := 1) (by decide) dL_has_3 ?_
  refine V_iand X dL_has_4 ?_
  refine V_iconst X (v := 1) (by decide) dL_has_5 ?_
  refine V_icmp_ne X (tgt := 13) (by decide) dL_has_6 (fun hc6 => ?_) (fun hc6 => ?_)
  · refine V_iconst X (v := 0) (by decide) dL_has_13 ?_
    exact V_zret X hr (by decide) (⟨bI_f (decide_eq_false hc6), rfl⟩) dL_has_14
  · refine V_iconst X (v := 1) (by decide) dL_has_9 ?_
    refine V_goto X (tgt := 14) (by decide) dL_has_10 ?_
    exact V_zret X hr (by decide) (⟨bI_t (decide_eq_true hc6), rfl⟩) dL_has_14
set_option maxHeartbeats 4000000 in
set_option maxRecDepth 100000 in
theorem c_L_size (l : Launch) (G : GG) (f : Wo) (x : Nat) (hx : x < 262144) : Cp l yL_size wsL_size 1 44 G [.int (nI x)] f (.int (nI (JQ (nI x) 18).length)) := by
  refine Ct.of (cc := cL_size) (maxL := 3) (ret := (some .int)) (by decide) rfl (Nat.le_of_ble_eq_true rfl) (lv := [(0, _)]) rfl (by simp [Value.category]) ?_
  intro K X hL hG hr hnm
  subst hL; subst hG
  have L : ∀ y : Nat, y < 262144 → ∀ j, j + pcF 18 y = pcF 18 x → V K f 0 0 4 [(0, .int (nI x)), (1, .int (nI j)), (2, .int (nI y))] [] := by
    intro y
    induction y using Nat.strongRecOn with
    | ind y ih =>
      intro hy j hj
      refine V_iload_n X rfl dL_size_4 ?_
      refine V_if_eq X (tgt := 20) (by decide) dL_size_5 (fun hc5 => ?_) (fun hc5 => ?_)
      · have hy0 : y = 0 := (nI_eq (by omega) (by decide)).mp hc5
        subst hy0
        refine V_iload_n X rfl dL_size_20 ?_
        exact V_iret X hr (⟨by rw [pcF_0, Nat.add_zero] at hj; rw [hj, pcF_J], rfl⟩) dL_size_21
      · have hy0 : y ≠ 0 := fun q => hc5 (by rw [q]; rfl)
        refine V_iinc X (lv' := [(1, _), (0, _), (2, _)]) (v := nI (j + 1)) rfl (nI_1 _) (by decide) rfl dL_size_8 ?_
        refine V_iload_n X rfl dL_size_11 ?_
        refine V_iload_n X rfl dL_size_12 ?_
        refine V_iconst X (v := 1) (by decide) dL_size_13 ?_
        refine V_isub X dL_size_14 ?_
        refine V_iand X dL_size_15 ?_
        refine V.top (y := nI (y &&& (y - 1))) (by rw [show (1 : Int32) = nI 1 from rfl, pk_sub (by omega), nI_and]) ?_
        refine V_istore_n X (lv' := [(2, _), (1, _), (0, _)]) (by decide) rfl dL_size_16 ?_
        refine V_goto X (tgt := 4) (by decide) dL_size_17 ?_
        refine V.lvs (lv' := [(0, _), (1, _), (2, _)]) rfl ?_
        have hle : y &&& (y - 1) ≤ y - 1 := Nat.and_le_right
        exact ih (y &&& (y - 1)) (by omega) (by omega) (j + 1) (by have := pcF_k 18 y hy hy0; omega)
  refine V_iconst X (v := 0) (by decide) dL_size_0 ?_
  refine V_istore_n X (lv' := [(1, _), (0, _)]) (by decide) rfl dL_size_1 ?_
  refine V_iload_n X rfl dL_size_2 ?_
  refine V_istore_n X (lv' := [(2, _), (1, _), (0, _)]) (by decide) rfl dL_size_3 ?_
  refine V.lvs (lv' := [(0, _), (1, _), (2, _)]) rfl ?_
  exact L x hx 0 (Nat.zero_add _)
set_option maxHeartbeats 4000000 in
set_option maxRecDepth 100000 in
theorem c_L_players (l : Launch) (G : GG) (f : Wo) (A : Nat → Nat) (lq : Nat → Int64) (la : Nat → Nat → Int32) (hA : LA G A lq la f) (t : Nat) (ht : t < 60) (P S Q M : Nat) (hok : eOk P S Q M) (hq : lq t = lN (eN P S Q M)) : Cp l yL_players wsL_players 1 44 G [.ref (A 0), .int (nI t)] f (.int (nI P)) := by
  refine Ct.of (cc := cL_players) (maxL := 2) (ret := (some .int)) (by decide) rfl (Nat.le_of_ble_eq_true rfl) (lv := [(0, _), (1, _)]) rfl (by simp [Value.category]) ?_
  intro K X hL hG hr hnm
  subst hL; subst hG
  refine V_aload_n X rfl dL_players_0 ?_
  refine V_iload_n X rfl dL_players_1 ?_
  refine V_qld X hA (t) (by omega) (hq) dL_players_2 ?_
  refine V_ldc2 X (v := 262143) (by decide +kernel) dL_players_3 ?_
  refine V_land X dL_players_6 ?_
  refine V_l2i X dL_players_7 ?_
  exact V_iret X hr (⟨congrArg (fun v => some (Value.int v)) (j_pl hok), rfl⟩) dL_players_8
set_option maxHeartbeats 4000000 in
set_option maxRecDepth 100000 in
theorem c_L_since (l : Launch) (G : GG) (f : Wo) (A : Nat → Nat) (lq : Nat → Int64) (la : Nat → Nat → Int32) (hA : LA G A lq la f) (t : Nat) (ht : t < 60) (P S Q M : Nat) (hok : eOk P S Q M) (hq : lq t = lN (eN P S Q M)) : Cp l yL_since wsL_since 1 44 G [.ref (A 0), .int (nI t)] f (.int (nI S)) := by
  refine Ct.of (cc := cL_since) (maxL := 2) (ret := (some .int)) (by decide) rfl (Nat.le_of_ble_eq_true rfl) (lv := [(0, _), (1, _)]) rfl (by simp [Value.category]) ?_
  intro K X hL hG hr hnm
  subst hL; subst hG
  refine V_aload_n X rfl dL_since_0 ?_
  refine V_iload_n X rfl dL_since_1 ?_
  refine V_qld X hA (t) (by omega) (hq) dL_since_2 ?_
  refine V_bipush X (v := 18) (by decide) dL_since_3 ?_
  refine V_lshr X dL_since_5 ?_
  refine V_ldc2 X (v := 131071) (by decide +kernel) dL_since_6 ?_
  refine V_land X dL_since_9 ?_
  refine V_l2i X dL_since_10 ?_
  exact V_iret X hr (⟨congrArg (fun v => some (Value.int v)) (j_si hok), rfl⟩) dL_since_11
set_option maxHeartbeats 4000000 in
set_option maxRecDepth 100000 in
theorem c_L_queues (l : Launch) (G : GG) (f : Wo) (A : Nat → Nat) (lq : Nat → Int64) (la : Nat → Nat → Int32) (hA : LA G A lq la f) (t : Nat) (ht : t < 60) (P S Q M : Nat) (hok : eOk P S Q M) (hq : lq t = lN (eN P S Q M)) : Cp l yL_queues wsL_queues 1 44 G [.ref (A 0), .int (nI t)] f (.int (bI (decide (Q = 1)))) := by
  refine Ct.of (cc := cL_queues) (maxL := 2) (ret := (some .boolean)) (by decide) rfl (Nat.le_of_ble_eq_true rfl) (lv := [(0, _), (1, _)]) rfl (by simp [Value.category]) ?_
  intro K X hL hG hr hnm
  subst hL; subst hG
  refine V_aload_n X rfl dL_queues_0 ?_
  refine V_iload_n X rfl dL_queues_1 ?_
  refine V_qld X hA (t) (by omega) (hq) dL_queues_2 ?_
  refine V_bipush X (v := 40) (by decide) dL_queues_3 ?_
  refine V_lshr X dL_queues_5 ?_
  refine V_lconst X (v := 1) (by decide) dL_queues_6 ?_
  refine V_land X dL_queues_7 ?_
  refine V.topl (y := lN Q) (j_qu hok) ?_
  refine V_lconst X (v := 1) (by decide) dL_queues_8 ?_
  refine V_lcmp X dL_queues_9 ?_
  refine V_if_ne X (tgt := 17) (by decide) dL_queues_10 (fun hc10 => ?_) (fun hc10 => ?_)
  · refine V_iconst X (v := 0) (by decide) dL_queues_17 ?_
    exact V_zret X hr (by decide) (⟨bI_f (decide_eq_false fun q => hc10 ((lg_cmp_eq _ _).mpr (by rw [q]; rfl))), rfl⟩) dL_queues_18
  · refine V_iconst X (v := 1) (by decide) dL_queues_13 ?_
    refine V_goto X (tgt := 18) (by decide) dL_queues_14 ?_
    exact V_zret X hr (by decide) (⟨bI_t (decide_eq_true (by have h8 := (lg_cmp_eq _ _).mp hc10; exact (pk_lEQ (a := Q) (b := 1) (by have := hok.2.2.1; omega) (by decide)).mp h8)), rfl⟩) dL_queues_18
set_option maxHeartbeats 4000000 in
set_option maxRecDepth 100000 in
theorem c_L_sum (l : Launch) (G : GG) (f : Wo) (al : Tg → Nat) (fi : Nat → Nat → Int32) (z : CZ) (hR : RC G al fi z f) (s : Int32) (hs : ∀ k, k < 18 → hsI s (nI k) = true → k < zN z 0) : Cp l yL_sum wsL_sum 11 202 G [.ref (al (15, 0)), .int s] f (.int (smI 18 s (fi 1))) := by
  refine Ct.of (cc := cL_sum) (maxL := 4) (ret := (some .int)) (by decide) rfl (Nat.le_of_ble_eq_true rfl) (lv := [(0, _), (1, _)]) rfl (by simp [Value.category]) ?_
  intro K X hL hG hr hnm
  subst hL; subst hG
  have L : ∀ (n i : Nat), 18 - i = n → i ≤ 18 → V K f 0 0 4 [(0, .ref (al (15, 0))), (1, .int s), (2, .int (smI i s (fi 1))), (3, .int (nI i))] [] := by
    intro n
    induction n using Nat.strongRecOn with
    | ind n ih =>
      intro i hn hi
      refine V_iload_n X rfl dL_sum_4 ?_
      refine V_bipush X (v := 18) (by decide) dL_sum_5 ?_
      refine V_icmp_ge X (tgt := 36) (by decide) dL_sum_7 (fun hc7 => ?_) (fun hc7 => ?_)
      · have hiN := lim_ge (N := 18) rfl hc7 hi (by omega)
        refine V_iload_n X rfl dL_sum_36 ?_
        exact V_iret X hr (⟨by rw [hiN], rfl⟩) dL_sum_37
      · have hlt := lim_lt (N := 18) rfl hc7 hi (by omega)
        refine V_iload_n X rfl dL_sum_10 ?_
        refine V_iload_n X rfl dL_sum_11 ?_
        refine V_iload_n X rfl dL_sum_12 ?_
        refine V_callSp X (rest := _) (c_L_has _ _ _ _ _) gL_sum_L_has rfl hds_L_has (Nat.le_of_ble_eq_true rfl) (Nat.le_of_ble_eq_true rfl) rfl (Nat.le_of_ble_eq_true rfl) dL_sum_13 ?_
        refine V_if_eq X (tgt := 27) (by decide) dL_sum_16 (fun hc16 => ?_) (fun hc16 => ?_)
        · refine V_iconst X (v := 0) (by decide) dL_sum_27 ?_
          refine V_iadd X dL_sum_28 ?_
          refine V.top (y := smI (i + 1) s (fi 1)) (smI_f (bI_eq0 hc16)) ?_
          refine V_istore_n X (lv' := [(2, _), (0, _), (1, _), (3, _)]) (by decide) rfl dL_sum_29 ?_
          refine V_iinc X (lv' := [(3, _), (2, _), (0, _), (1, _)]) (v := nI (i + 1)) rfl (nI_1 _) (by decide) rfl dL_sum_30 ?_
          refine V_goto X (tgt := 4) (by decide) dL_sum_33 ?_
          refine V.lvs (lv' := [(0, _), (1, _), (2, _), (3, _)]) rfl ?_
          exact ih (18 - (i + 1)) (by omega) (i + 1) rfl (by omega)
        · refine V_aload_n X rfl dL_sum_19 ?_
          refine V_iload_n X rfl dL_sum_20 ?_
          refine V_callVp X (rest := _) (c_X5_rating_t _ _ _ al fi z hR i (hs i hlt (bI_ne0 hc16))) (hR.2.1 (15, 0) dm15) rfl gL_sum_X5_rating rfl hdv_X5_rating (Nat.le_of_ble_eq_true rfl) (Nat.le_of_ble_eq_true rfl) rfl (Nat.le_of_ble_eq_true rfl) dL_sum_21 ?_
          refine V_goto X (tgt := 28) (by decide) dL_sum_24 ?_
          refine V_iadd X dL_sum_28 ?_
          refine V.top (y := smI (i + 1) s (fi 1)) (smI_t (bI_ne0 hc16)) ?_
          refine V_istore_n X (lv' := [(2, _), (0, _), (1, _), (3, _)]) (by decide) rfl dL_sum_29 ?_
          refine V_iinc X (lv' := [(3, _), (2, _), (0, _), (1, _)]) (v := nI (i + 1)) rfl (nI_1 _) (by decide) rfl dL_sum_30 ?_
          refine V_goto X (tgt := 4) (by decide) dL_sum_33 ?_
          refine V.lvs (lv' := [(0, _), (1, _), (2, _), (3, _)]) rfl ?_
          exact ih (18 - (i + 1)) (by omega) (i + 1) rfl (by omega)
  refine V_iconst X (v := 0) (by decide) dL_sum_0 ?_
  refine V_istore_n X (lv' := [(2, _), (0, _), (1, _)]) (by decide) rfl dL_sum_1 ?_
  refine V_iconst X (v := 0) (by decide) dL_sum_2 ?_
  refine V_istore_n X (lv' := [(3, _), (2, _), (0, _), (1, _)]) (by decide) rfl dL_sum_3 ?_
  refine V.lvs (lv' := [(0, _), (1, _), (2, _), (3, _)]) rfl ?_
  exact L _ 0 rfl (Nat.zero_le _)
def mnP (fi : Nat → Nat → Int32) (P : Nat) : Int32 := smI 18 (nI P) (fi 1) / nI (JQ (nI P) 18).length
set_option maxHeartbeats 4000000 in
set_option maxRecDepth 100000 in
theorem c_L_fit (l : Launch) (G : GG) (f : Wo) (al : Tg → Nat) (fi : Nat → Nat → Int32) (z : CZ) (hR : RC G al fi z f) (A : Nat → Nat) (lq : Nat → Int64) (la : Nat → Nat → Int32) (hA : LA G A lq la f) (ck : Int32) (hck : la 6 0 = ck) (t1 : Nat) (ht1 : t1 < 60) (P1 S1 Q1 M1 : Nat) (hok1 : eOk P1 S1 Q1 M1) (hq1 : lq t1 = lN (eN P1 S1 Q1 M1)) (hs1 : ∀ k, k < 18 → hsI (nI P1) (nI k) = true → k < zN z 0) (hl1 : 1 ≤ (JQ (nI P1) 18).length) (t2 : Nat) (ht2 : t2 < 60) (P2 S2 Q2 M2 : Nat) (hok2 : eOk P2 S2 Q2 M2) (hq2 : lq t2 = lN (eN P2 S2 Q2 M2)) (hs2 : ∀ k, k < 18 → hsI (nI P2) (nI k) = true → k < zN z 0) (hl2 : 1 ≤ (JQ (nI P2) 18).length) : Cp l yL_fit wsL_fit 12 225 G [.ref (al (15, 0)), .ref (A 0), .ref (A 6), .int (nI t1), .int (nI t2)] f (.int (bI (ftI ck (mnP fi P1) (mnP fi P2) (nI S1) (nI S2)))) := by
  refine Ct.of (cc := cL_fit) (maxL := 6) (ret := (some .boolean)) (by decide) rfl (Nat.le_of_ble_eq_true rfl) (lv := [(0, _), (1, _), (2, _), (3, _), (4, _)]) rfl (by simp [Value.category]) ?_
  intro K X hL hG hr hnm
  subst hL; subst hG
  have hz : ∀ (P : Nat), 1 ≤ (JQ (nI P) 18).length → ¬ nI (JQ (nI P) 18).length = 0 := fun P h => nI_ne0 h (Nat.lt_of_le_of_lt (by have := List.length_filter_le (fun k => hsI (nI P) (nI k)) (List.range 18); rwa [List.length_range] at this) (by decide : 18 < 2147483648))
  refine V_aload_n X rfl dL_fit_0 ?_
  refine V_aload_n X rfl dL_fit_1 ?_
  refine V_iload_n X rfl dL_fit_2 ?_
  refine V_callSp X (rest := _) (c_L_players _ _ _ A lq la hA t1 ht1 P1 S1 Q1 M1 hok1 hq1) gL_fit_L_players rfl hds_L_players (Nat.le_of_ble_eq_true rfl) (Nat.le_of_ble_eq_true rfl) rfl (Nat.le_of_ble_eq_true rfl) dL_fit_3 ?_
  refine V_callSp X (rest := _) (c_L_sum _ _ _ al fi z hR (nI P1) hs1) gL_fit_L_sum rfl hds_L_sum (Nat.le_of_ble_eq_true rfl) (Nat.le_of_ble_eq_true rfl) rfl (Nat.le_of_ble_eq_true rfl) dL_fit_6 ?_
  refine V_aload_n X rfl dL_fit_9 ?_
  refine V_iload_n X rfl dL_fit_10 ?_
  refine V_callSp X (rest := _) (c_L_players _ _ _ A lq la hA t1 ht1 P1 S1 Q1 M1 hok1 hq1) gL_fit_L_players rfl hds_L_players (Nat.le_of_ble_eq_true rfl) (Nat.le_of_ble_eq_true rfl) rfl (Nat.le_of_ble_eq_true rfl) dL_fit_11 ?_
  refine V_callSp X (rest := _) (c_L_size _ _ _ P1 hok1.1) gL_fit_L_size rfl hds_L_size (Nat.le_of_ble_eq_true rfl) (Nat.le_of_ble_eq_true rfl) rfl (Nat.le_of_ble_eq_true rfl) dL_fit_14 ?_
  refine V_idiv X (hz P1 hl1) dL_fit_17 ?_
  refine V_aload_n X rfl dL_fit_18 ?_
  refine V_aload_n X rfl dL_fit_19 ?_
  refine V_iload X rfl dL_fit_20 ?_
  refine V_callSp X (rest := _) (c_L_players _ _ _ A lq la hA t2 ht2 P2 S2 Q2 M2 hok2 hq2) gL_fit_L_players rfl hds_L_players (Nat.le_of_ble_eq_true rfl) (Nat.le_of_ble_eq_true rfl) rfl (Nat.le_of_ble_eq_true rfl) dL_fit_22 ?_
  refine V_callSp X (rest := _) (c_L_sum _ _ _ al fi z hR (nI P2) hs2) gL_fit_L_sum rfl hds_L_sum (Nat.le_of_ble_eq_true rfl) (Nat.le_of_ble_eq_true rfl) rfl (Nat.le_of_ble_eq_true rfl) dL_fit_25 ?_
  refine V_aload_n X rfl dL_fit_28 ?_
  refine V_iload X rfl dL_fit_29 ?_
  refine V_callSp X (rest := _) (c_L_players _ _ _ A lq la hA t2 ht2 P2 S2 Q2 M2 hok2 hq2) gL_fit_L_players rfl hds_L_players (Nat.le_of_ble_eq_true rfl) (Nat.le_of_ble_eq_true rfl) rfl (Nat.le_of_ble_eq_true rfl) dL_fit_31 ?_
  refine V_callSp X (rest := _) (c_L_size _ _ _ P2 hok2.1) gL_fit_L_size rfl hds_L_size (Nat.le_of_ble_eq_true rfl) (Nat.le_of_ble_eq_true rfl) rfl (Nat.le_of_ble_eq_true rfl) dL_fit_34 ?_
  refine V_idiv X (hz P2 hl2) dL_fit_37 ?_
  refine V_isub X dL_fit_38 ?_
  refine V_istore X (lv' := [(5, _), (0, _), (1, _), (2, _), (3, _), (4, _)]) (by decide) rfl dL_fit_39 ?_
  refine V.join (P := fun w => w = absI (mnP fi P1 - mnP fi P2)) 54 (fun w54 hw54 => ?_) (fun hj54 => ?_)
  · subst hw54
    refine V_istore X (lv' := [(5, _), (0, _), (1, _), (2, _), (3, _), (4, _)]) (by decide) rfl dL_fit_54 ?_
    refine V_iload X rfl dL_fit_56 ?_
    refine V_bipush X (v := 100) (by decide) dL_fit_58 ?_
    refine V_bipush X (v := 20) (by decide) dL_fit_60 ?_
    refine V_aload_n X rfl dL_fit_62 ?_
    refine V_iconst X (v := 0) (by decide) dL_fit_63 ?_
    refine V_ald X hA 6 (0) 4 (by decide) rfl (by omega) (hck) dL_fit_64 ?_
    refine V_aload_n X rfl dL_fit_65 ?_
    refine V_iload_n X rfl dL_fit_66 ?_
    refine V_callSp X (rest := _) (c_L_since _ _ _ A lq la hA t1 ht1 P1 S1 Q1 M1 hok1 hq1) gL_fit_L_since rfl hds_L_since (Nat.le_of_ble_eq_true rfl) (Nat.le_of_ble_eq_true rfl) rfl (Nat.le_of_ble_eq_true rfl) dL_fit_67 ?_
    refine V_isub X dL_fit_70 ?_
    refine V_imul X dL_fit_71 ?_
    refine V_iadd X dL_fit_72 ?_
    refine V_icmp_gt X (tgt := 101) (by decide) dL_fit_73 (fun hc73 => ?_) (fun hc73 => ?_)
    · refine V_iconst X (v := 0) (by decide) dL_fit_101 ?_
      exact V_zret X hr (by decide) (⟨congrArg (fun v => some (Value.int v)) (Eq.symm (by have h9 : wnI ck (nI S1) < absI (mnP fi P1 - mnP fi P2) := hc73; show bI (decide (absI (mnP fi P1 - mnP fi P2) ≤ wnI ck (nI S1)) && decide (absI (mnP fi P1 - mnP fi P2) ≤ wnI ck (nI S2))) = 0; rw [decide_eq_false (Int32.not_le.mpr h9), Bool.false_and]; rfl)), rfl⟩) dL_fit_102
    · refine V_iload X rfl dL_fit_76 ?_
      refine V_bipush X (v := 100) (by decide) dL_fit_78 ?_
      refine V_bipush X (v := 20) (by decide) dL_fit_80 ?_
      refine V_aload_n X rfl dL_fit_82 ?_
      refine V_iconst X (v := 0) (by decide) dL_fit_83 ?_
      refine V_ald X hA 6 (0) 4 (by decide) rfl (by omega) (hck) dL_fit_84 ?_
      refine V_aload_n X rfl dL_fit_85 ?_
      refine V_iload X rfl dL_fit_86 ?_
      refine V_callSp X (rest := _) (c_L_since _ _ _ A lq la hA t2 ht2 P2 S2 Q2 M2 hok2 hq2) gL_fit_L_since rfl hds_L_since (Nat.le_of_ble_eq_true rfl) (Nat.le_of_ble_eq_true rfl) rfl (Nat.le_of_ble_eq_true rfl) dL_fit_88 ?_
      refine V_isub X dL_fit_91 ?_
      refine V_imul X dL_fit_92 ?_
      refine V_iadd X dL_fit_93 ?_
      refine V_icmp_gt X (tgt := 101) (by decide) dL_fit_94 (fun hc94 => ?_) (fun hc94 => ?_)
      · refine V_iconst X (v := 0) (by decide) dL_fit_101 ?_
        exact V_zret X hr (by decide) (⟨congrArg (fun v => some (Value.int v)) (Eq.symm (by have h9 : wnI ck (nI S2) < absI (mnP fi P1 - mnP fi P2) := hc94; show bI (decide (absI (mnP fi P1 - mnP fi P2) ≤ wnI ck (nI S1)) && decide (absI (mnP fi P1 - mnP fi P2) ≤ wnI ck (nI S2))) = 0; rw [decide_eq_false (p := absI (mnP fi P1 - mnP fi P2) ≤ wnI ck (nI S2)) (Int32.not_le.mpr h9), Bool.and_false]; rfl)), rfl⟩) dL_fit_102
      · refine V_iconst X (v := 1) (by decide) dL_fit_97 ?_
        refine V_goto X (tgt := 102) (by decide) dL_fit_98 ?_
        exact V_zret X hr (by decide) (⟨congrArg (fun v => some (Value.int v)) (Eq.symm (by have h8 : ¬ wnI ck (nI S1) < absI (mnP fi P1 - mnP fi P2) := hc73; have h9 : ¬ wnI ck (nI S2) < absI (mnP fi P1 - mnP fi P2) := hc94; show bI (decide (absI (mnP fi P1 - mnP fi P2) ≤ wnI ck (nI S1)) && decide (absI (mnP fi P1 - mnP fi P2) ≤ wnI ck (nI S2))) = 1; rw [decide_eq_true (Int32.not_lt.mp h8), decide_eq_true (Int32.not_lt.mp h9)]; rfl)), rfl⟩) dL_fit_102
  · refine V_iload X rfl dL_fit_41 ?_
    refine V_if_ge X (tgt := 52) (by decide) dL_fit_43 (fun hc43 => ?_) (fun hc43 => ?_)
    · refine V_iload X rfl dL_fit_52 ?_
      exact hj54 _ ((if_pos hc43).symm)
    · refine V_iload X rfl dL_fit_46 ?_
      refine V_ineg X dL_fit_48 ?_
      refine V_goto X (tgt := 54) (by decide) dL_fit_49 ?_
      exact hj54 _ ((if_neg hc43).symm)
