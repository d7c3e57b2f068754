/-! ===== the law's helpers ===== -/
set_option maxHeartbeats 1000000 in
set_option maxRecDepth 100000 in
theorem h_addPlayer_0 (l : Launch) (G : GG) (f : Wo) (x : Nat) (tx : Tg) (fs : List Value) (hx : f x = some (tx, .inr (5, fs))) (a : Int32) (b : Int32) (o : Nat) (g : Nat → Int64) (ho : f o = some ((40, 0), oJ1 G g)) (v : Int32) (P : Wo → Prop) (mc ms : Nat) (hM : Ct l yX5_addPlayer wsX5_addPlayer 12 228 G [.ref x, .int a, .int b] f (fun r f2 => r = some (.int v) ∧ P f2) mc ms) (hP : ∀ f2, P f2 → FrC f f2) : Ch l yL_addPlayer wsL_addPlayer 13 250 G [.ref x, .int a, .int b, .ref o] f (fun r f' => r = some (.int 0) ∧ ∃ f2, P f2 ∧ f' = w_up f2 o (40, 0) (oJ1 G (va_up g (0 : Int32).toNatClampNeg v.toInt64))) mc ms := by
  refine Ch.of (cc := cL_addPlayer) (maxL := 5) (ret := (some .int)) (by decide) rfl (Nat.le_of_ble_eq_true rfl) (lv := [(0, _), (1, _), (2, _), (3, _)]) rfl (by simp [Value.category]) ?_
  intro K X hL hG hr hCF htab
  subst hL; subst hG
  refine V_aload_n X rfl dL_addPlayer_0 ?_
  refine V_iconst X (v := 0) (by decide) dL_addPlayer_1 ?_
  refine V_aload_n X rfl dL_addPlayer_2 ?_
  refine V_iload_n X rfl dL_addPlayer_3 ?_
  refine V_iload_n X rfl dL_addPlayer_4 ?_
  refine V_callV (kc' := 0) (ks' := 0) X (rest := _) hM hx rfl gL_addPlayer_X5_addPlayer rfl hdv_X5_addPlayer (Nat.le_of_ble_eq_true rfl) (Nat.le_of_ble_eq_true rfl) rfl (Nat.le_of_ble_eq_true rfl) (by omega) (by omega) dL_addPlayer_5 (fun r9 f2 h9 => ?_)
  obtain ⟨rfl, hp⟩ := h9
  have ho2 := (hP f2 hp) o _ ho (by show 30 ≤ 40; omega)
  refine V_i2l X dL_addPlayer_8 ?_
  refine V_last X (ho2) (by decide) (vp_in_nI (n := 0) (N := 1) (by decide) (by decide)) dL_addPlayer_9 ?_
  refine V_goto X (tgt := 21) (by decide) dL_addPlayer_10 ?_
  refine V_iconst X (v := 0) (by decide) dL_addPlayer_21 ?_
  exact V_iret X hr (⟨rfl, f2, hp, rfl⟩) dL_addPlayer_22
set_option maxHeartbeats 1000000 in
set_option maxRecDepth 100000 in
theorem h_addPlayer_1 (l : Launch) (G : GG) (f : Wo) (x : Nat) (tx : Tg) (fs : List Value) (hx : f x = some (tx, .inr (5, fs))) (a : Int32) (b : Int32) (o : Nat) (hM : Cx l yX5_addPlayer wsX5_addPlayer 12 228 G [.ref x, .int a, .int b] f (fun _ _ => False) (fun E f' => E = "java/lang/IllegalArgumentException" ∧ f' = f) 1 6) : Ch l yL_addPlayer wsL_addPlayer 13 250 G [.ref x, .int a, .int b, .ref o] f (fun r f' => r = some (.int 1) ∧ f' = f) 1 6 := by
  refine Ch.of (cc := cL_addPlayer) (maxL := 5) (ret := (some .int)) (by decide) rfl (Nat.le_of_ble_eq_true rfl) (lv := [(0, _), (1, _), (2, _), (3, _)]) rfl (by simp [Value.category]) ?_
  intro K X hL hG hr hCF htab
  subst hL; subst hG
  refine V_aload_n X rfl dL_addPlayer_0 ?_
  refine V_iconst X (v := 0) (by decide) dL_addPlayer_1 ?_
  refine V_aload_n X rfl dL_addPlayer_2 ?_
  refine V_iload_n X rfl dL_addPlayer_3 ?_
  refine V_iload_n X rfl dL_addPlayer_4 ?_
  refine V_callVX (kc' := 0) (ks' := 0) X (rest := _) hM hx rfl gL_addPlayer_X5_addPlayer rfl hdv_X5_addPlayer (Nat.le_of_ble_eq_true rfl) (Nat.le_of_ble_eq_true rfl) rfl (Nat.le_of_ble_eq_true rfl) (by omega) (by omega) dL_addPlayer_5 (fun E f2 h9 => ?_) (fun r9 f2 h9 => h9.elim)
  obtain ⟨rfl, rfl⟩ := h9
  refine V_catch X (name := "java/lang/IllegalArgumentException") [] ⟨0, 10, 13, 13⟩ [⟨0, 10, 17, 15⟩] (htab.trans rfl) (fun z hz => absurd hz List.not_mem_nil) rfl (by decide) (by decide +kernel) (hCF.1 _ (List.mem_cons_self)) (fun q => ?_)
  show V K f2 0 0 13 _ [.ref q]
  refine V_astore X (lv' := [(4, _), (0, _), (1, _), (2, _), (3, _)]) (by decide) rfl dL_addPlayer_13 ?_
  refine V_iconst X (v := 1) (by decide) dL_addPlayer_15 ?_
  exact V_iret X hr (⟨rfl, rfl⟩) dL_addPlayer_16
set_option maxHeartbeats 1000000 in
set_option maxRecDepth 100000 in
theorem h_addPlayer_2 (l : Launch) (G : GG) (f : Wo) (x : Nat) (tx : Tg) (fs : List Value) (hx : f x = some (tx, .inr (5, fs))) (a : Int32) (b : Int32) (o : Nat) (hM : Cx l yX5_addPlayer wsX5_addPlayer 12 228 G [.ref x, .int a, .int b] f (fun _ _ => False) (fun E f' => E = "java/lang/IllegalStateException" ∧ f' = f) 1 6) : Ch l yL_addPlayer wsL_addPlayer 13 250 G [.ref x, .int a, .int b, .ref o] f (fun r f' => r = some (.int 2) ∧ f' = f) 1 6 := by
  refine Ch.of (cc := cL_addPlayer) (maxL := 5) (ret := (some .int)) (by decide) rfl (Nat.le_of_ble_eq_true rfl) (lv := [(0, _), (1, _), (2, _), (3, _)]) rfl (by simp [Value.category]) ?_
  intro K X hL hG hr hCF htab
  subst hL; subst hG
  refine V_aload_n X rfl dL_addPlayer_0 ?_
  refine V_iconst X (v := 0) (by decide) dL_addPlayer_1 ?_
  refine V_aload_n X rfl dL_addPlayer_2 ?_
  refine V_iload_n X rfl dL_addPlayer_3 ?_
  refine V_iload_n X rfl dL_addPlayer_4 ?_
  refine V_callVX (kc' := 0) (ks' := 0) X (rest := _) hM hx rfl gL_addPlayer_X5_addPlayer rfl hdv_X5_addPlayer (Nat.le_of_ble_eq_true rfl) (Nat.le_of_ble_eq_true rfl) rfl (Nat.le_of_ble_eq_true rfl) (by omega) (by omega) dL_addPlayer_5 (fun E f2 h9 => ?_) (fun r9 f2 h9 => h9.elim)
  obtain ⟨rfl, rfl⟩ := h9
  refine V_catch X (name := "java/lang/IllegalStateException") [⟨0, 10, 13, 13⟩] ⟨0, 10, 17, 15⟩ [] (htab.trans rfl) (fun z hz => by
    cases List.mem_singleton.mp hz
    exact ⟨by decide, "java/lang/IllegalArgumentException", by decide +kernel, hCF.2 ("java/lang/IllegalStateException", "java/lang/IllegalArgumentException") (List.mem_cons_self)⟩) rfl (by decide) (by decide +kernel) (hCF.1 _ (List.mem_cons_of_mem _ (List.mem_cons_self))) (fun q => ?_)
  show V K f2 0 0 17 _ [.ref q]
  refine V_astore X (lv' := [(4, _), (0, _), (1, _), (2, _), (3, _)]) (by decide) rfl dL_addPlayer_17 ?_
  refine V_iconst X (v := 2) (by decide) dL_addPlayer_19 ?_
  exact V_iret X hr (⟨rfl, rfl⟩) dL_addPlayer_20
set_option maxHeartbeats 1000000 in
set_option maxRecDepth 100000 in
theorem h_queue_0 (l : Launch) (G : GG) (f : Wo) (x : Nat) (tx : Tg) (fs : List Value) (hx : f x = some (tx, .inr (5, fs))) (a : Int32) (o : Nat) (g : Nat → Int64) (ho : f o = some ((40, 0), oJ1 G g)) (v : Int32) (P : Wo → Prop) (mc ms : Nat) (hM : Ct l yX5_queue wsX5_queue 13 249 G [.ref x, .int a] f (fun r f2 => r = some (.int v) ∧ P f2) mc ms) (hP : ∀ f2, P f2 → FrC f f2) : Ch l yL_queue wsL_queue 14 272 G [.ref x, .int a, .ref o] f (fun r f' => r = some (.int 0) ∧ ∃ f2, P f2 ∧ f' = w_up f2 o (40, 0) (oJ1 G (va_up g (0 : Int32).toNatClampNeg v.toInt64))) mc ms := by
  refine Ch.of (cc := cL_queue) (maxL := 4) (ret := (some .int)) (by decide) rfl (Nat.le_of_ble_eq_true rfl) (lv := [(0, _), (1, _), (2, _)]) rfl (by simp [Value.category]) ?_
  intro K X hL hG hr hCF htab
  subst hL; subst hG
  refine V_aload_n X rfl dL_queue_0 ?_
  refine V_iconst X (v := 0) (by decide) dL_queue_1 ?_
  refine V_aload_n X rfl dL_queue_2 ?_
  refine V_iload_n X rfl dL_queue_3 ?_
  refine V_callV (kc' := 0) (ks' := 0) X (rest := _) hM hx rfl gL_queue_X5_queue rfl hdv_X5_queue (Nat.le_of_ble_eq_true rfl) (Nat.le_of_ble_eq_true rfl) rfl (Nat.le_of_ble_eq_true rfl) (by omega) (by omega) dL_queue_4 (fun r9 f2 h9 => ?_)
  obtain ⟨rfl, hp⟩ := h9
  have ho2 := (hP f2 hp) o _ ho (by show 30 ≤ 40; omega)
  refine V_i2l X dL_queue_7 ?_
  refine V_last X (ho2) (by decide) (vp_in_nI (n := 0) (N := 1) (by decide) (by decide)) dL_queue_8 ?_
  refine V_goto X (tgt := 18) (by decide) dL_queue_9 ?_
  refine V_iconst X (v := 0) (by decide) dL_queue_18 ?_
  exact V_iret X hr (⟨rfl, f2, hp, rfl⟩) dL_queue_19
set_option maxHeartbeats 1000000 in
set_option maxRecDepth 100000 in
theorem h_queue_1 (l : Launch) (G : GG) (f : Wo) (x : Nat) (tx : Tg) (fs : List Value) (hx : f x = some (tx, .inr (5, fs))) (a : Int32) (o : Nat) (hM : Cx l yX5_queue wsX5_queue 13 249 G [.ref x, .int a] f (fun _ _ => False) (fun E f' => E = "java/lang/IllegalArgumentException" ∧ f' = f) 1 6) : Ch l yL_queue wsL_queue 14 272 G [.ref x, .int a, .ref o] f (fun r f' => r = some (.int 1) ∧ f' = f) 1 6 := by
  refine Ch.of (cc := cL_queue) (maxL := 4) (ret := (some .int)) (by decide) rfl (Nat.le_of_ble_eq_true rfl) (lv := [(0, _), (1, _), (2, _)]) rfl (by simp [Value.category]) ?_
  intro K X hL hG hr hCF htab
  subst hL; subst hG
  refine V_aload_n X rfl dL_queue_0 ?_
  refine V_iconst X (v := 0) (by decide) dL_queue_1 ?_
  refine V_aload_n X rfl dL_queue_2 ?_
  refine V_iload_n X rfl dL_queue_3 ?_
  refine V_callVX (kc' := 0) (ks' := 0) X (rest := _) hM hx rfl gL_queue_X5_queue rfl hdv_X5_queue (Nat.le_of_ble_eq_true rfl) (Nat.le_of_ble_eq_true rfl) rfl (Nat.le_of_ble_eq_true rfl) (by omega) (by omega) dL_queue_4 (fun E f2 h9 => ?_) (fun r9 f2 h9 => h9.elim)
  obtain ⟨rfl, rfl⟩ := h9
  refine V_catch X (name := "java/lang/IllegalArgumentException") [] ⟨0, 9, 12, 13⟩ [⟨0, 9, 15, 15⟩] (htab.trans rfl) (fun z hz => absurd hz List.not_mem_nil) rfl (by decide) (by decide +kernel) (hCF.1 _ (List.mem_cons_self)) (fun q => ?_)
  show V K f2 0 0 12 _ [.ref q]
  refine V_astore_n X (lv' := [(3, _), (0, _), (1, _), (2, _)]) (by decide) rfl dL_queue_12 ?_
  refine V_iconst X (v := 1) (by decide) dL_queue_13 ?_
  exact V_iret X hr (⟨rfl, rfl⟩) dL_queue_14
set_option maxHeartbeats 1000000 in
set_option maxRecDepth 100000 in
theorem h_queue_2 (l : Launch) (G : GG) (f : Wo) (x : Nat) (tx : Tg) (fs : List Value) (hx : f x = some (tx, .inr (5, fs))) (a : Int32) (o : Nat) (hM : Cx l yX5_queue wsX5_queue 13 249 G [.ref x, .int a] f (fun _ _ => False) (fun E f' => E = "java/lang/IllegalStateException" ∧ f' = f) 1 6) : Ch l yL_queue wsL_queue 14 272 G [.ref x, .int a, .ref o] f (fun r f' => r = some (.int 2) ∧ f' = f) 1 6 := by
  refine Ch.of (cc := cL_queue) (maxL := 4) (ret := (some .int)) (by decide) rfl (Nat.le_of_ble_eq_true rfl) (lv := [(0, _), (1, _), (2, _)]) rfl (by simp [Value.category]) ?_
  intro K X hL hG hr hCF htab
  subst hL; subst hG
  refine V_aload_n X rfl dL_queue_0 ?_
  refine V_iconst X (v := 0) (by decide) dL_queue_1 ?_
  refine V_aload_n X rfl dL_queue_2 ?_
  refine V_iload_n X rfl dL_queue_3 ?_
  refine V_callVX (kc' := 0) (ks' := 0) X (rest := _) hM hx rfl gL_queue_X5_queue rfl hdv_X5_queue (Nat.le_of_ble_eq_true rfl) (Nat.le_of_ble_eq_true rfl) rfl (Nat.le_of_ble_eq_true rfl) (by omega) (by omega) dL_queue_4 (fun E f2 h9 => ?_) (fun r9 f2 h9 => h9.elim)
  obtain ⟨rfl, rfl⟩ := h9
  refine V_catch X (name := "java/lang/IllegalStateException") [⟨0, 9, 12, 13⟩] ⟨0, 9, 15, 15⟩ [] (htab.trans rfl) (fun z hz => by
    cases List.mem_singleton.mp hz
    exact ⟨by decide, "java/lang/IllegalArgumentException", by decide +kernel, hCF.2 ("java/lang/IllegalStateException", "java/lang/IllegalArgumentException") (List.mem_cons_self)⟩) rfl (by decide) (by decide +kernel) (hCF.1 _ (List.mem_cons_of_mem _ (List.mem_cons_self))) (fun q => ?_)
  show V K f2 0 0 15 _ [.ref q]
  refine V_astore_n X (lv' := [(3, _), (0, _), (1, _), (2, _)]) (by decide) rfl dL_queue_15 ?_
  refine V_iconst X (v := 2) (by decide) dL_queue_16 ?_
  exact V_iret X hr (⟨rfl, rfl⟩) dL_queue_17
set_option maxHeartbeats 1000000 in
set_option maxRecDepth 100000 in
theorem h_leave_0 (l : Launch) (G : GG) (f : Wo) (x : Nat) (tx : Tg) (fs : List Value) (hx : f x = some (tx, .inr (5, fs))) (a : Int32) (o : Nat) (g : Nat → Int64) (ho : f o = some ((40, 0), oJ1 G g)) (v : Int32) (P : Wo → Prop) (mc ms : Nat) (hM : Ct l yX5_leave wsX5_leave 11 203 G [.ref x, .int a] f (fun r f2 => r = some (.int v) ∧ P f2) mc ms) (hP : ∀ f2, P f2 → FrC f f2) : Ch l yL_leave wsL_leave 12 225 G [.ref x, .int a, .ref o] f (fun r f' => r = some (.int 0) ∧ ∃ f2, P f2 ∧ f' = w_up f2 o (40, 0) (oJ1 G (va_up g (0 : Int32).toNatClampNeg v.toInt64))) mc ms := by
  refine Ch.of (cc := cL_leave) (maxL := 4) (ret := (some .int)) (by decide) rfl (Nat.le_of_ble_eq_true rfl) (lv := [(0, _), (1, _), (2, _)]) rfl (by simp [Value.category]) ?_
  intro K X hL hG hr hCF htab
  subst hL; subst hG
  refine V_aload_n X rfl dL_leave_0 ?_
  refine V_iconst X (v := 0) (by decide) dL_leave_1 ?_
  refine V_aload_n X rfl dL_leave_2 ?_
  refine V_iload_n X rfl dL_leave_3 ?_
  refine V_callV (kc' := 0) (ks' := 0) X (rest := _) hM hx rfl gL_leave_X5_leave rfl hdv_X5_leave (Nat.le_of_ble_eq_true rfl) (Nat.le_of_ble_eq_true rfl) rfl (Nat.le_of_ble_eq_true rfl) (by omega) (by omega) dL_leave_4 (fun r9 f2 h9 => ?_)
  obtain ⟨rfl, hp⟩ := h9
  have ho2 := (hP f2 hp) o _ ho (by show 30 ≤ 40; omega)
  refine V_i2l X dL_leave_7 ?_
  refine V_last X (ho2) (by decide) (vp_in_nI (n := 0) (N := 1) (by decide) (by decide)) dL_leave_8 ?_
  refine V_goto X (tgt := 18) (by decide) dL_leave_9 ?_
  refine V_iconst X (v := 0) (by decide) dL_leave_18 ?_
  exact V_iret X hr (⟨rfl, f2, hp, rfl⟩) dL_leave_19
set_option maxHeartbeats 1000000 in
set_option maxRecDepth 100000 in
theorem h_leave_1 (l : Launch) (G : GG) (f : Wo) (x : Nat) (tx : Tg) (fs : List Value) (hx : f x = some (tx, .inr (5, fs))) (a : Int32) (o : Nat) (hM : Cx l yX5_leave wsX5_leave 11 203 G [.ref x, .int a] f (fun _ _ => False) (fun E f' => E = "java/lang/IndexOutOfBoundsException" ∧ f' = f) 1 6) : Ch l yL_leave wsL_leave 12 225 G [.ref x, .int a, .ref o] f (fun r f' => r = some (.int 1) ∧ f' = f) 1 6 := by
  refine Ch.of (cc := cL_leave) (maxL := 4) (ret := (some .int)) (by decide) rfl (Nat.le_of_ble_eq_true rfl) (lv := [(0, _), (1, _), (2, _)]) rfl (by simp [Value.category]) ?_
  intro K X hL hG hr hCF htab
  subst hL; subst hG
  refine V_aload_n X rfl dL_leave_0 ?_
  refine V_iconst X (v := 0) (by decide) dL_leave_1 ?_
  refine V_aload_n X rfl dL_leave_2 ?_
  refine V_iload_n X rfl dL_leave_3 ?_
  refine V_callVX (kc' := 0) (ks' := 0) X (rest := _) hM hx rfl gL_leave_X5_leave rfl hdv_X5_leave (Nat.le_of_ble_eq_true rfl) (Nat.le_of_ble_eq_true rfl) rfl (Nat.le_of_ble_eq_true rfl) (by omega) (by omega) dL_leave_4 (fun E f2 h9 => ?_) (fun r9 f2 h9 => h9.elim)
  obtain ⟨rfl, rfl⟩ := h9
  refine V_catch X (name := "java/lang/IndexOutOfBoundsException") [] ⟨0, 9, 12, 24⟩ [⟨0, 9, 15, 15⟩] (htab.trans rfl) (fun z hz => absurd hz List.not_mem_nil) rfl (by decide) (by decide +kernel) (hCF.1 _ (List.mem_cons_of_mem _ (List.mem_cons_of_mem _ (List.mem_cons_self)))) (fun q => ?_)
  show V K f2 0 0 12 _ [.ref q]
  refine V_astore_n X (lv' := [(3, _), (0, _), (1, _), (2, _)]) (by decide) rfl dL_leave_12 ?_
  refine V_iconst X (v := 1) (by decide) dL_leave_13 ?_
  exact V_iret X hr (⟨rfl, rfl⟩) dL_leave_14
set_option maxHeartbeats 1000000 in
set_option maxRecDepth 100000 in
theorem h_leave_2 (l : Launch) (G : GG) (f : Wo) (x : Nat) (tx : Tg) (fs : List Value) (hx : f x = some (tx, .inr (5, fs))) (a : Int32) (o : Nat) (hM : Cx l yX5_leave wsX5_leave 11 203 G [.ref x, .int a] f (fun _ _ => False) (fun E f' => E = "java/lang/IllegalStateException" ∧ f' = f) 1 6) : Ch l yL_leave wsL_leave 12 225 G [.ref x, .int a, .ref o] f (fun r f' => r = some (.int 2) ∧ f' = f) 1 6 := by
  refine Ch.of (cc := cL_leave) (maxL := 4) (ret := (some .int)) (by decide) rfl (Nat.le_of_ble_eq_true rfl) (lv := [(0, _), (1, _), (2, _)]) rfl (by simp [Value.category]) ?_
  intro K X hL hG hr hCF htab
  subst hL; subst hG
  refine V_aload_n X rfl dL_leave_0 ?_
  refine V_iconst X (v := 0) (by decide) dL_leave_1 ?_
  refine V_aload_n X rfl dL_leave_2 ?_
  refine V_iload_n X rfl dL_leave_3 ?_
  refine V_callVX (kc' := 0) (ks' := 0) X (rest := _) hM hx rfl gL_leave_X5_leave rfl hdv_X5_leave (Nat.le_of_ble_eq_true rfl) (Nat.le_of_ble_eq_true rfl) rfl (Nat.le_of_ble_eq_true rfl) (by omega) (by omega) dL_leave_4 (fun E f2 h9 => ?_) (fun r9 f2 h9 => h9.elim)
  obtain ⟨rfl, rfl⟩ := h9
  refine V_catch X (name := "java/lang/IllegalStateException") [⟨0, 9, 12, 24⟩] ⟨0, 9, 15, 15⟩ [] (htab.trans rfl) (fun z hz => by
    cases List.mem_singleton.mp hz
    exact ⟨by decide, "java/lang/IndexOutOfBoundsException", by decide +kernel, hCF.2 ("java/lang/IllegalStateException", "java/lang/IndexOutOfBoundsException") (List.mem_cons_of_mem _ (List.mem_cons_self))⟩) rfl (by decide) (by decide +kernel) (hCF.1 _ (List.mem_cons_of_mem _ (List.mem_cons_self))) (fun q => ?_)
  show V K f2 0 0 15 _ [.ref q]
  refine V_astore_n X (lv' := [(3, _), (0, _), (1, _), (2, _)]) (by decide) rfl dL_leave_15 ?_
  refine V_iconst X (v := 2) (by decide) dL_leave_16 ?_
  exact V_iret X hr (⟨rfl, rfl⟩) dL_leave_17
set_option maxHeartbeats 1000000 in
set_option maxRecDepth 100000 in
theorem h_state_0 (l : Launch) (G : GG) (f : Wo) (x : Nat) (tx : Tg) (fs : List Value) (hx : f x = some (tx, .inr (5, fs))) (a : Int32) (o : Nat) (g : Nat → Int64) (ho : f o = some ((40, 0), oJ1 G g)) (v : Int32) (P : Wo → Prop) (mc ms : Nat) (hM : Ct l yX5_state wsX5_state 10 181 G [.ref x, .int a] f (fun r f2 => r = some (.int v) ∧ P f2) mc ms) (hP : ∀ f2, P f2 → FrC f f2) : Ch l yL_state wsL_state 11 202 G [.ref x, .int a, .ref o] f (fun r f' => r = some (.int 0) ∧ ∃ f2, P f2 ∧ f' = w_up f2 o (40, 0) (oJ1 G (va_up g (0 : Int32).toNatClampNeg v.toInt64))) mc ms := by
  refine Ch.of (cc := cL_state) (maxL := 4) (ret := (some .int)) (by decide) rfl (Nat.le_of_ble_eq_true rfl) (lv := [(0, _), (1, _), (2, _)]) rfl (by simp [Value.category]) ?_
  intro K X hL hG hr hCF htab
  subst hL; subst hG
  refine V_aload_n X rfl dL_state_0 ?_
  refine V_iconst X (v := 0) (by decide) dL_state_1 ?_
  refine V_aload_n X rfl dL_state_2 ?_
  refine V_iload_n X rfl dL_state_3 ?_
  refine V_callV (kc' := 0) (ks' := 0) X (rest := _) hM hx rfl gL_state_X5_state rfl hdv_X5_state (Nat.le_of_ble_eq_true rfl) (Nat.le_of_ble_eq_true rfl) rfl (Nat.le_of_ble_eq_true rfl) (by omega) (by omega) dL_state_4 (fun r9 f2 h9 => ?_)
  obtain ⟨rfl, hp⟩ := h9
  have ho2 := (hP f2 hp) o _ ho (by show 30 ≤ 40; omega)
  refine V_i2l X dL_state_7 ?_
  refine V_last X (ho2) (by decide) (vp_in_nI (n := 0) (N := 1) (by decide) (by decide)) dL_state_8 ?_
  refine V_goto X (tgt := 15) (by decide) dL_state_9 ?_
  refine V_iconst X (v := 0) (by decide) dL_state_15 ?_
  exact V_iret X hr (⟨rfl, f2, hp, rfl⟩) dL_state_16
set_option maxHeartbeats 1000000 in
set_option maxRecDepth 100000 in
theorem h_state_1 (l : Launch) (G : GG) (f : Wo) (x : Nat) (tx : Tg) (fs : List Value) (hx : f x = some (tx, .inr (5, fs))) (a : Int32) (o : Nat) (hM : Cx l yX5_state wsX5_state 10 181 G [.ref x, .int a] f (fun _ _ => False) (fun E f' => E = "java/lang/IndexOutOfBoundsException" ∧ f' = f) 1 6) : Ch l yL_state wsL_state 11 202 G [.ref x, .int a, .ref o] f (fun r f' => r = some (.int 1) ∧ f' = f) 1 6 := by
  refine Ch.of (cc := cL_state) (maxL := 4) (ret := (some .int)) (by decide) rfl (Nat.le_of_ble_eq_true rfl) (lv := [(0, _), (1, _), (2, _)]) rfl (by simp [Value.category]) ?_
  intro K X hL hG hr hCF htab
  subst hL; subst hG
  refine V_aload_n X rfl dL_state_0 ?_
  refine V_iconst X (v := 0) (by decide) dL_state_1 ?_
  refine V_aload_n X rfl dL_state_2 ?_
  refine V_iload_n X rfl dL_state_3 ?_
  refine V_callVX (kc' := 0) (ks' := 0) X (rest := _) hM hx rfl gL_state_X5_state rfl hdv_X5_state (Nat.le_of_ble_eq_true rfl) (Nat.le_of_ble_eq_true rfl) rfl (Nat.le_of_ble_eq_true rfl) (by omega) (by omega) dL_state_4 (fun E f2 h9 => ?_) (fun r9 f2 h9 => h9.elim)
  obtain ⟨rfl, rfl⟩ := h9
  refine V_catch X (name := "java/lang/IndexOutOfBoundsException") [] ⟨0, 9, 12, 24⟩ [] (htab.trans rfl) (fun z hz => absurd hz List.not_mem_nil) rfl (by decide) (by decide +kernel) (hCF.1 _ (List.mem_cons_of_mem _ (List.mem_cons_of_mem _ (List.mem_cons_self)))) (fun q => ?_)
  show V K f2 0 0 12 _ [.ref q]
  refine V_astore_n X (lv' := [(3, _), (0, _), (1, _), (2, _)]) (by decide) rfl dL_state_12 ?_
  refine V_iconst X (v := 1) (by decide) dL_state_13 ?_
  exact V_iret X hr (⟨rfl, rfl⟩) dL_state_14
set_option maxHeartbeats 1000000 in
set_option maxRecDepth 100000 in
theorem h_rating_0 (l : Launch) (G : GG) (f : Wo) (x : Nat) (tx : Tg) (fs : List Value) (hx : f x = some (tx, .inr (5, fs))) (a : Int32) (o : Nat) (g : Nat → Int64) (ho : f o = some ((40, 0), oJ1 G g)) (v : Int32) (P : Wo → Prop) (mc ms : Nat) (hM : Ct l yX5_rating wsX5_rating 10 181 G [.ref x, .int a] f (fun r f2 => r = some (.int v) ∧ P f2) mc ms) (hP : ∀ f2, P f2 → FrC f f2) : Ch l yL_rating wsL_rating 11 202 G [.ref x, .int a, .ref o] f (fun r f' => r = some (.int 0) ∧ ∃ f2, P f2 ∧ f' = w_up f2 o (40, 0) (oJ1 G (va_up g (0 : Int32).toNatClampNeg v.toInt64))) mc ms := by
  refine Ch.of (cc := cL_rating) (maxL := 4) (ret := (some .int)) (by decide) rfl (Nat.le_of_ble_eq_true rfl) (lv := [(0, _), (1, _), (2, _)]) rfl (by simp [Value.category]) ?_
  intro K X hL hG hr hCF htab
  subst hL; subst hG
  refine V_aload_n X rfl dL_rating_0 ?_
  refine V_iconst X (v := 0) (by decide) dL_rating_1 ?_
  refine V_aload_n X rfl dL_rating_2 ?_
  refine V_iload_n X rfl dL_rating_3 ?_
  refine V_callV (kc' := 0) (ks' := 0) X (rest := _) hM hx rfl gL_rating_X5_rating rfl hdv_X5_rating (Nat.le_of_ble_eq_true rfl) (Nat.le_of_ble_eq_true rfl) rfl (Nat.le_of_ble_eq_true rfl) (by omega) (by omega) dL_rating_4 (fun r9 f2 h9 => ?_)
  obtain ⟨rfl, hp⟩ := h9
  have ho2 := (hP f2 hp) o _ ho (by show 30 ≤ 40; omega)
  refine V_i2l X dL_rating_7 ?_
  refine V_last X (ho2) (by decide) (vp_in_nI (n := 0) (N := 1) (by decide) (by decide)) dL_rating_8 ?_
  refine V_goto X (tgt := 15) (by decide) dL_rating_9 ?_
  refine V_iconst X (v := 0) (by decide) dL_rating_15 ?_
  exact V_iret X hr (⟨rfl, f2, hp, rfl⟩) dL_rating_16
set_option maxHeartbeats 1000000 in
set_option maxRecDepth 100000 in
theorem h_rating_1 (l : Launch) (G : GG) (f : Wo) (x : Nat) (tx : Tg) (fs : List Value) (hx : f x = some (tx, .inr (5, fs))) (a : Int32) (o : Nat) (hM : Cx l yX5_rating wsX5_rating 10 181 G [.ref x, .int a] f (fun _ _ => False) (fun E f' => E = "java/lang/IndexOutOfBoundsException" ∧ f' = f) 1 6) : Ch l yL_rating wsL_rating 11 202 G [.ref x, .int a, .ref o] f (fun r f' => r = some (.int 1) ∧ f' = f) 1 6 := by
  refine Ch.of (cc := cL_rating) (maxL := 4) (ret := (some .int)) (by decide) rfl (Nat.le_of_ble_eq_true rfl) (lv := [(0, _), (1, _), (2, _)]) rfl (by simp [Value.category]) ?_
  intro K X hL hG hr hCF htab
  subst hL; subst hG
  refine V_aload_n X rfl dL_rating_0 ?_
  refine V_iconst X (v := 0) (by decide) dL_rating_1 ?_
  refine V_aload_n X rfl dL_rating_2 ?_
  refine V_iload_n X rfl dL_rating_3 ?_
  refine V_callVX (kc' := 0) (ks' := 0) X (rest := _) hM hx rfl gL_rating_X5_rating rfl hdv_X5_rating (Nat.le_of_ble_eq_true rfl) (Nat.le_of_ble_eq_true rfl) rfl (Nat.le_of_ble_eq_true rfl) (by omega) (by omega) dL_rating_4 (fun E f2 h9 => ?_) (fun r9 f2 h9 => h9.elim)
  obtain ⟨rfl, rfl⟩ := h9
  refine V_catch X (name := "java/lang/IndexOutOfBoundsException") [] ⟨0, 9, 12, 24⟩ [] (htab.trans rfl) (fun z hz => absurd hz List.not_mem_nil) rfl (by decide) (by decide +kernel) (hCF.1 _ (List.mem_cons_of_mem _ (List.mem_cons_of_mem _ (List.mem_cons_self)))) (fun q => ?_)
  show V K f2 0 0 12 _ [.ref q]
  refine V_astore_n X (lv' := [(3, _), (0, _), (1, _), (2, _)]) (by decide) rfl dL_rating_12 ?_
  refine V_iconst X (v := 1) (by decide) dL_rating_13 ?_
  exact V_iret X hr (⟨rfl, rfl⟩) dL_rating_14
set_option maxHeartbeats 1000000 in
set_option maxRecDepth 100000 in
theorem h_uncertainty_0 (l : Launch) (G : GG) (f : Wo) (x : Nat) (tx : Tg) (fs : List Value) (hx : f x = some (tx, .inr (5, fs))) (a : Int32) (o : Nat) (g : Nat → Int64) (ho : f o = some ((40, 0), oJ1 G g)) (v : Int32) (P : Wo → Prop) (mc ms : Nat) (hM : Ct l yX5_uncertainty wsX5_uncertainty 10 181 G [.ref x, .int a] f (fun r f2 => r = some (.int v) ∧ P f2) mc ms) (hP : ∀ f2, P f2 → FrC f f2) : Ch l yL_uncertainty wsL_uncertainty 11 202 G [.ref x, .int a, .ref o] f (fun r f' => r = some (.int 0) ∧ ∃ f2, P f2 ∧ f' = w_up f2 o (40, 0) (oJ1 G (va_up g (0 : Int32).toNatClampNeg v.toInt64))) mc ms := by
  refine Ch.of (cc := cL_uncertainty) (maxL := 4) (ret := (some .int)) (by decide) rfl (Nat.le_of_ble_eq_true rfl) (lv := [(0, _), (1, _), (2, _)]) rfl (by simp [Value.category]) ?_
  intro K X hL hG hr hCF htab
  subst hL; subst hG
  refine V_aload_n X rfl dL_uncertainty_0 ?_
  refine V_iconst X (v := 0) (by decide) dL_uncertainty_1 ?_
  refine V_aload_n X rfl dL_uncertainty_2 ?_
  refine V_iload_n X rfl dL_uncertainty_3 ?_
  refine V_callV (kc' := 0) (ks' := 0) X (rest := _) hM hx rfl gL_uncertainty_X5_uncertainty rfl hdv_X5_uncertainty (Nat.le_of_ble_eq_true rfl) (Nat.le_of_ble_eq_true rfl) rfl (Nat.le_of_ble_eq_true rfl) (by omega) (by omega) dL_uncertainty_4 (fun r9 f2 h9 => ?_)
  obtain ⟨rfl, hp⟩ := h9
  have ho2 := (hP f2 hp) o _ ho (by show 30 ≤ 40; omega)
  refine V_i2l X dL_uncertainty_7 ?_
  refine V_last X (ho2) (by decide) (vp_in_nI (n := 0) (N := 1) (by decide) (by decide)) dL_uncertainty_8 ?_
  refine V_goto X (tgt := 15) (by decide) dL_uncertainty_9 ?_
  refine V_iconst X (v := 0) (by decide) dL_uncertainty_15 ?_
  exact V_iret X hr (⟨rfl, f2, hp, rfl⟩) dL_uncertainty_16
set_option maxHeartbeats 1000000 in
set_option maxRecDepth 100000 in
theorem h_uncertainty_1 (l : Launch) (G : GG) (f : Wo) (x : Nat) (tx : Tg) (fs : List Value) (hx : f x = some (tx, .inr (5, fs))) (a : Int32) (o : Nat) (hM : Cx l yX5_uncertainty wsX5_uncertainty 10 181 G [.ref x, .int a] f (fun _ _ => False) (fun E f' => E = "java/lang/IndexOutOfBoundsException" ∧ f' = f) 1 6) : Ch l yL_uncertainty wsL_uncertainty 11 202 G [.ref x, .int a, .ref o] f (fun r f' => r = some (.int 1) ∧ f' = f) 1 6 := by
  refine Ch.of (cc := cL_uncertainty) (maxL := 4) (ret := (some .int)) (by decide) rfl (Nat.le_of_ble_eq_true rfl) (lv := [(0, _), (1, _), (2, _)]) rfl (by simp [Value.category]) ?_
  intro K X hL hG hr hCF htab
  subst hL; subst hG
  refine V_aload_n X rfl dL_uncertainty_0 ?_
  refine V_iconst X (v := 0) (by decide) dL_uncertainty_1 ?_
  refine V_aload_n X rfl dL_uncertainty_2 ?_
  refine V_iload_n X rfl dL_uncertainty_3 ?_
  refine V_callVX (kc' := 0) (ks' := 0) X (rest := _) hM hx rfl gL_uncertainty_X5_uncertainty rfl hdv_X5_uncertainty (Nat.le_of_ble_eq_true rfl) (Nat.le_of_ble_eq_true rfl) rfl (Nat.le_of_ble_eq_true rfl) (by omega) (by omega) dL_uncertainty_4 (fun E f2 h9 => ?_) (fun r9 f2 h9 => h9.elim)
  obtain ⟨rfl, rfl⟩ := h9
  refine V_catch X (name := "java/lang/IndexOutOfBoundsException") [] ⟨0, 9, 12, 24⟩ [] (htab.trans rfl) (fun z hz => absurd hz List.not_mem_nil) rfl (by decide) (by decide +kernel) (hCF.1 _ (List.mem_cons_of_mem _ (List.mem_cons_of_mem _ (List.mem_cons_self)))) (fun q => ?_)
  show V K f2 0 0 12 _ [.ref q]
  refine V_astore_n X (lv' := [(3, _), (0, _), (1, _), (2, _)]) (by decide) rfl dL_uncertainty_12 ?_
  refine V_iconst X (v := 1) (by decide) dL_uncertainty_13 ?_
  exact V_iret X hr (⟨rfl, rfl⟩) dL_uncertainty_14
set_option maxHeartbeats 1000000 in
set_option maxRecDepth 100000 in
theorem h_level_0 (l : Launch) (G : GG) (f : Wo) (x : Nat) (tx : Tg) (fs : List Value) (hx : f x = some (tx, .inr (5, fs))) (a : Int32) (o : Nat) (g : Nat → Int64) (ho : f o = some ((40, 0), oJ1 G g)) (v : Int32) (P : Wo → Prop) (mc ms : Nat) (hM : Ct l yX5_level wsX5_level 10 181 G [.ref x, .int a] f (fun r f2 => r = some (.int v) ∧ P f2) mc ms) (hP : ∀ f2, P f2 → FrC f f2) : Ch l yL_level wsL_level 11 202 G [.ref x, .int a, .ref o] f (fun r f' => r = some (.int 0) ∧ ∃ f2, P f2 ∧ f' = w_up f2 o (40, 0) (oJ1 G (va_up g (0 : Int32).toNatClampNeg v.toInt64))) mc ms := by
  refine Ch.of (cc := cL_level) (maxL := 4) (ret := (some .int)) (by decide) rfl (Nat.le_of_ble_eq_true rfl) (lv := [(0, _), (1, _), (2, _)]) rfl (by simp [Value.category]) ?_
  intro K X hL hG hr hCF htab
  subst hL; subst hG
  refine V_aload_n X rfl dL_level_0 ?_
  refine V_iconst X (v := 0) (by decide) dL_level_1 ?_
  refine V_aload_n X rfl dL_level_2 ?_
  refine V_iload_n X rfl dL_level_3 ?_
  refine V_callV (kc' := 0) (ks' := 0) X (rest := _) hM hx rfl gL_level_X5_level rfl hdv_X5_level (Nat.le_of_ble_eq_true rfl) (Nat.le_of_ble_eq_true rfl) rfl (Nat.le_of_ble_eq_true rfl) (by omega) (by omega) dL_level_4 (fun r9 f2 h9 => ?_)
  obtain ⟨rfl, hp⟩ := h9
  have ho2 := (hP f2 hp) o _ ho (by show 30 ≤ 40; omega)
  refine V_i2l X dL_level_7 ?_
  refine V_last X (ho2) (by decide) (vp_in_nI (n := 0) (N := 1) (by decide) (by decide)) dL_level_8 ?_
  refine V_goto X (tgt := 15) (by decide) dL_level_9 ?_
  refine V_iconst X (v := 0) (by decide) dL_level_15 ?_
  exact V_iret X hr (⟨rfl, f2, hp, rfl⟩) dL_level_16
set_option maxHeartbeats 1000000 in
set_option maxRecDepth 100000 in
theorem h_level_1 (l : Launch) (G : GG) (f : Wo) (x : Nat) (tx : Tg) (fs : List Value) (hx : f x = some (tx, .inr (5, fs))) (a : Int32) (o : Nat) (hM : Cx l yX5_level wsX5_level 10 181 G [.ref x, .int a] f (fun _ _ => False) (fun E f' => E = "java/lang/IndexOutOfBoundsException" ∧ f' = f) 1 6) : Ch l yL_level wsL_level 11 202 G [.ref x, .int a, .ref o] f (fun r f' => r = some (.int 1) ∧ f' = f) 1 6 := by
  refine Ch.of (cc := cL_level) (maxL := 4) (ret := (some .int)) (by decide) rfl (Nat.le_of_ble_eq_true rfl) (lv := [(0, _), (1, _), (2, _)]) rfl (by simp [Value.category]) ?_
  intro K X hL hG hr hCF htab
  subst hL; subst hG
  refine V_aload_n X rfl dL_level_0 ?_
  refine V_iconst X (v := 0) (by decide) dL_level_1 ?_
  refine V_aload_n X rfl dL_level_2 ?_
  refine V_iload_n X rfl dL_level_3 ?_
  refine V_callVX (kc' := 0) (ks' := 0) X (rest := _) hM hx rfl gL_level_X5_level rfl hdv_X5_level (Nat.le_of_ble_eq_true rfl) (Nat.le_of_ble_eq_true rfl) rfl (Nat.le_of_ble_eq_true rfl) (by omega) (by omega) dL_level_4 (fun E f2 h9 => ?_) (fun r9 f2 h9 => h9.elim)
  obtain ⟨rfl, rfl⟩ := h9
  refine V_catch X (name := "java/lang/IndexOutOfBoundsException") [] ⟨0, 9, 12, 24⟩ [] (htab.trans rfl) (fun z hz => absurd hz List.not_mem_nil) rfl (by decide) (by decide +kernel) (hCF.1 _ (List.mem_cons_of_mem _ (List.mem_cons_of_mem _ (List.mem_cons_self)))) (fun q => ?_)
  show V K f2 0 0 12 _ [.ref q]
  refine V_astore_n X (lv' := [(3, _), (0, _), (1, _), (2, _)]) (by decide) rfl dL_level_12 ?_
  refine V_iconst X (v := 1) (by decide) dL_level_13 ?_
  exact V_iret X hr (⟨rfl, rfl⟩) dL_level_14
set_option maxHeartbeats 1000000 in
set_option maxRecDepth 100000 in
theorem h_barred_0 (l : Launch) (G : GG) (f : Wo) (x : Nat) (tx : Tg) (fs : List Value) (hx : f x = some (tx, .inr (5, fs))) (a : Int32) (o : Nat) (g : Nat → Int64) (ho : f o = some ((40, 0), oJ1 G g)) (v : Int32) (P : Wo → Prop) (mc ms : Nat) (hM : Ct l yX5_barred wsX5_barred 10 181 G [.ref x, .int a] f (fun r f2 => r = some (.int v) ∧ P f2) mc ms) (hP : ∀ f2, P f2 → FrC f f2) : Ch l yL_barred wsL_barred 11 202 G [.ref x, .int a, .ref o] f (fun r f' => r = some (.int 0) ∧ ∃ f2, P f2 ∧ f' = w_up f2 o (40, 0) (oJ1 G (va_up g (0 : Int32).toNatClampNeg v.toInt64))) mc ms := by
  refine Ch.of (cc := cL_barred) (maxL := 4) (ret := (some .int)) (by decide) rfl (Nat.le_of_ble_eq_true rfl) (lv := [(0, _), (1, _), (2, _)]) rfl (by simp [Value.category]) ?_
  intro K X hL hG hr hCF htab
  subst hL; subst hG
  refine V_aload_n X rfl dL_barred_0 ?_
  refine V_iconst X (v := 0) (by decide) dL_barred_1 ?_
  refine V_aload_n X rfl dL_barred_2 ?_
  refine V_iload_n X rfl dL_barred_3 ?_
  refine V_callV (kc' := 0) (ks' := 0) X (rest := _) hM hx rfl gL_barred_X5_barred rfl hdv_X5_barred (Nat.le_of_ble_eq_true rfl) (Nat.le_of_ble_eq_true rfl) rfl (Nat.le_of_ble_eq_true rfl) (by omega) (by omega) dL_barred_4 (fun r9 f2 h9 => ?_)
  obtain ⟨rfl, hp⟩ := h9
  have ho2 := (hP f2 hp) o _ ho (by show 30 ≤ 40; omega)
  refine V_i2l X dL_barred_7 ?_
  refine V_last X (ho2) (by decide) (vp_in_nI (n := 0) (N := 1) (by decide) (by decide)) dL_barred_8 ?_
  refine V_goto X (tgt := 15) (by decide) dL_barred_9 ?_
  refine V_iconst X (v := 0) (by decide) dL_barred_15 ?_
  exact V_iret X hr (⟨rfl, f2, hp, rfl⟩) dL_barred_16
set_option maxHeartbeats 1000000 in
set_option maxRecDepth 100000 in
theorem h_barred_1 (l : Launch) (G : GG) (f : Wo) (x : Nat) (tx : Tg) (fs : List Value) (hx : f x = some (tx, .inr (5, fs))) (a : Int32) (o : Nat) (hM : Cx l yX5_barred wsX5_barred 10 181 G [.ref x, .int a] f (fun _ _ => False) (fun E f' => E = "java/lang/IndexOutOfBoundsException" ∧ f' = f) 1 6) : Ch l yL_barred wsL_barred 11 202 G [.ref x, .int a, .ref o] f (fun r f' => r = some (.int 1) ∧ f' = f) 1 6 := by
  refine Ch.of (cc := cL_barred) (maxL := 4) (ret := (some .int)) (by decide) rfl (Nat.le_of_ble_eq_true rfl) (lv := [(0, _), (1, _), (2, _)]) rfl (by simp [Value.category]) ?_
  intro K X hL hG hr hCF htab
  subst hL; subst hG
  refine V_aload_n X rfl dL_barred_0 ?_
  refine V_iconst X (v := 0) (by decide) dL_barred_1 ?_
  refine V_aload_n X rfl dL_barred_2 ?_
  refine V_iload_n X rfl dL_barred_3 ?_
  refine V_callVX (kc' := 0) (ks' := 0) X (rest := _) hM hx rfl gL_barred_X5_barred rfl hdv_X5_barred (Nat.le_of_ble_eq_true rfl) (Nat.le_of_ble_eq_true rfl) rfl (Nat.le_of_ble_eq_true rfl) (by omega) (by omega) dL_barred_4 (fun E f2 h9 => ?_) (fun r9 f2 h9 => h9.elim)
  obtain ⟨rfl, rfl⟩ := h9
  refine V_catch X (name := "java/lang/IndexOutOfBoundsException") [] ⟨0, 9, 12, 24⟩ [] (htab.trans rfl) (fun z hz => absurd hz List.not_mem_nil) rfl (by decide) (by decide +kernel) (hCF.1 _ (List.mem_cons_of_mem _ (List.mem_cons_of_mem _ (List.mem_cons_self)))) (fun q => ?_)
  show V K f2 0 0 12 _ [.ref q]
  refine V_astore_n X (lv' := [(3, _), (0, _), (1, _), (2, _)]) (by decide) rfl dL_barred_12 ?_
  refine V_iconst X (v := 1) (by decide) dL_barred_13 ?_
  exact V_iret X hr (⟨rfl, rfl⟩) dL_barred_14
set_option maxHeartbeats 1000000 in
set_option maxRecDepth 100000 in
theorem h_window_0 (l : Launch) (G : GG) (f : Wo) (x : Nat) (tx : Tg) (fs : List Value) (hx : f x = some (tx, .inr (5, fs))) (a : Int32) (o : Nat) (g : Nat → Int64) (ho : f o = some ((40, 0), oJ1 G g)) (v : Int32) (P : Wo → Prop) (mc ms : Nat) (hM : Ct l yX5_window wsX5_window 11 203 G [.ref x, .int a] f (fun r f2 => r = some (.int v) ∧ P f2) mc ms) (hP : ∀ f2, P f2 → FrC f f2) : Ch l yL_window wsL_window 12 224 G [.ref x, .int a, .ref o] f (fun r f' => r = some (.int 0) ∧ ∃ f2, P f2 ∧ f' = w_up f2 o (40, 0) (oJ1 G (va_up g (0 : Int32).toNatClampNeg v.toInt64))) mc ms := by
  refine Ch.of (cc := cL_window) (maxL := 4) (ret := (some .int)) (by decide) rfl (Nat.le_of_ble_eq_true rfl) (lv := [(0, _), (1, _), (2, _)]) rfl (by simp [Value.category]) ?_
  intro K X hL hG hr hCF htab
  subst hL; subst hG
  refine V_aload_n X rfl dL_window_0 ?_
  refine V_iconst X (v := 0) (by decide) dL_window_1 ?_
  refine V_aload_n X rfl dL_window_2 ?_
  refine V_iload_n X rfl dL_window_3 ?_
  refine V_callV (kc' := 0) (ks' := 0) X (rest := _) hM hx rfl gL_window_X5_window rfl hdv_X5_window (Nat.le_of_ble_eq_true rfl) (Nat.le_of_ble_eq_true rfl) rfl (Nat.le_of_ble_eq_true rfl) (by omega) (by omega) dL_window_4 (fun r9 f2 h9 => ?_)
  obtain ⟨rfl, hp⟩ := h9
  have ho2 := (hP f2 hp) o _ ho (by show 30 ≤ 40; omega)
  refine V_i2l X dL_window_7 ?_
  refine V_last X (ho2) (by decide) (vp_in_nI (n := 0) (N := 1) (by decide) (by decide)) dL_window_8 ?_
  refine V_goto X (tgt := 18) (by decide) dL_window_9 ?_
  refine V_iconst X (v := 0) (by decide) dL_window_18 ?_
  exact V_iret X hr (⟨rfl, f2, hp, rfl⟩) dL_window_19
set_option maxHeartbeats 1000000 in
set_option maxRecDepth 100000 in
theorem h_window_1 (l : Launch) (G : GG) (f : Wo) (x : Nat) (tx : Tg) (fs : List Value) (hx : f x = some (tx, .inr (5, fs))) (a : Int32) (o : Nat) (hM : Cx l yX5_window wsX5_window 11 203 G [.ref x, .int a] f (fun _ _ => False) (fun E f' => E = "java/lang/IndexOutOfBoundsException" ∧ f' = f) 1 6) : Ch l yL_window wsL_window 12 224 G [.ref x, .int a, .ref o] f (fun r f' => r = some (.int 1) ∧ f' = f) 1 6 := by
  refine Ch.of (cc := cL_window) (maxL := 4) (ret := (some .int)) (by decide) rfl (Nat.le_of_ble_eq_true rfl) (lv := [(0, _), (1, _), (2, _)]) rfl (by simp [Value.category]) ?_
  intro K X hL hG hr hCF htab
  subst hL; subst hG
  refine V_aload_n X rfl dL_window_0 ?_
  refine V_iconst X (v := 0) (by decide) dL_window_1 ?_
  refine V_aload_n X rfl dL_window_2 ?_
  refine V_iload_n X rfl dL_window_3 ?_
  refine V_callVX (kc' := 0) (ks' := 0) X (rest := _) hM hx rfl gL_window_X5_window rfl hdv_X5_window (Nat.le_of_ble_eq_true rfl) (Nat.le_of_ble_eq_true rfl) rfl (Nat.le_of_ble_eq_true rfl) (by omega) (by omega) dL_window_4 (fun E f2 h9 => ?_) (fun r9 f2 h9 => h9.elim)
  obtain ⟨rfl, rfl⟩ := h9
  refine V_catch X (name := "java/lang/IndexOutOfBoundsException") [] ⟨0, 9, 12, 24⟩ [⟨0, 9, 15, 15⟩] (htab.trans rfl) (fun z hz => absurd hz List.not_mem_nil) rfl (by decide) (by decide +kernel) (hCF.1 _ (List.mem_cons_of_mem _ (List.mem_cons_of_mem _ (List.mem_cons_self)))) (fun q => ?_)
  show V K f2 0 0 12 _ [.ref q]
  refine V_astore_n X (lv' := [(3, _), (0, _), (1, _), (2, _)]) (by decide) rfl dL_window_12 ?_
  refine V_iconst X (v := 1) (by decide) dL_window_13 ?_
  exact V_iret X hr (⟨rfl, rfl⟩) dL_window_14
set_option maxHeartbeats 1000000 in
set_option maxRecDepth 100000 in
theorem h_window_2 (l : Launch) (G : GG) (f : Wo) (x : Nat) (tx : Tg) (fs : List Value) (hx : f x = some (tx, .inr (5, fs))) (a : Int32) (o : Nat) (hM : Cx l yX5_window wsX5_window 11 203 G [.ref x, .int a] f (fun _ _ => False) (fun E f' => E = "java/lang/IllegalStateException" ∧ f' = f) 1 6) : Ch l yL_window wsL_window 12 224 G [.ref x, .int a, .ref o] f (fun r f' => r = some (.int 2) ∧ f' = f) 1 6 := by
  refine Ch.of (cc := cL_window) (maxL := 4) (ret := (some .int)) (by decide) rfl (Nat.le_of_ble_eq_true rfl) (lv := [(0, _), (1, _), (2, _)]) rfl (by simp [Value.category]) ?_
  intro K X hL hG hr hCF htab
  subst hL; subst hG
  refine V_aload_n X rfl dL_window_0 ?_
  refine V_iconst X (v := 0) (by decide) dL_window_1 ?_
  refine V_aload_n X rfl dL_window_2 ?_
  refine V_iload_n X rfl dL_window_3 ?_
  refine V_callVX (kc' := 0) (ks' := 0) X (rest := _) hM hx rfl gL_window_X5_window rfl hdv_X5_window (Nat.le_of_ble_eq_true rfl) (Nat.le_of_ble_eq_true rfl) rfl (Nat.le_of_ble_eq_true rfl) (by omega) (by omega) dL_window_4 (fun E f2 h9 => ?_) (fun r9 f2 h9 => h9.elim)
  obtain ⟨rfl, rfl⟩ := h9
  refine V_catch X (name := "java/lang/IllegalStateException") [⟨0, 9, 12, 24⟩] ⟨0, 9, 15, 15⟩ [] (htab.trans rfl) (fun z hz => by
    cases List.mem_singleton.mp hz
    exact ⟨by decide, "java/lang/IndexOutOfBoundsException", by decide +kernel, hCF.2 ("java/lang/IllegalStateException", "java/lang/IndexOutOfBoundsException") (List.mem_cons_of_mem _ (List.mem_cons_self))⟩) rfl (by decide) (by decide +kernel) (hCF.1 _ (List.mem_cons_of_mem _ (List.mem_cons_self))) (fun q => ?_)
  show V K f2 0 0 15 _ [.ref q]
  refine V_astore_n X (lv' := [(3, _), (0, _), (1, _), (2, _)]) (by decide) rfl dL_window_15 ?_
  refine V_iconst X (v := 2) (by decide) dL_window_16 ?_
  exact V_iret X hr (⟨rfl, rfl⟩) dL_window_17
set_option maxHeartbeats 1000000 in
set_option maxRecDepth 100000 in
theorem h_fit_0 (l : Launch) (G : GG) (f : Wo) (x : Nat) (tx : Tg) (fs : List Value) (hx : f x = some (tx, .inr (5, fs))) (a : Int32) (b : Int32) (o : Nat) (g : Nat → Int64) (ho : f o = some ((40, 0), oJ1 G g)) (v : Bool) (P : Wo → Prop) (mc ms : Nat) (hM : Ct l yX5_fit wsX5_fit 12 226 G [.ref x, .int a, .int b] f (fun r f2 => r = some (.int (bI v)) ∧ P f2) mc ms) (hP : ∀ f2, P f2 → FrC f f2) : Ch l yL_fit wsL_fit 13 249 G [.ref x, .int a, .int b, .ref o] f (fun r f' => r = some (.int 0) ∧ ∃ f2, P f2 ∧ f' = w_up f2 o (40, 0) (oJ1 G (va_up g (0 : Int32).toNatClampNeg (bJ v)))) mc ms := by
  refine Ch.of (cc := cL_fit) (maxL := 5) (ret := (some .int)) (by decide) rfl (Nat.le_of_ble_eq_true rfl) (lv := [(0, _), (1, _), (2, _), (3, _)]) rfl (by simp [Value.category]) ?_
  intro K X hL hG hr hCF htab
  subst hL; subst hG
  refine V_aload_n X rfl dL_fit_0 ?_
  refine V_iconst X (v := 0) (by decide) dL_fit_1 ?_
  refine V_aload_n X rfl dL_fit_2 ?_
  refine V_iload_n X rfl dL_fit_3 ?_
  refine V_iload_n X rfl dL_fit_4 ?_
  refine V_callV (kc' := 0) (ks' := 0) X (rest := _) hM hx rfl gL_fit_X5_fit rfl hdv_X5_fit (Nat.le_of_ble_eq_true rfl) (Nat.le_of_ble_eq_true rfl) rfl (Nat.le_of_ble_eq_true rfl) (by omega) (by omega) dL_fit_5 (fun r9 f2 h9 => ?_)
  obtain ⟨rfl, hp⟩ := h9
  have ho2 := (hP f2 hp) o _ ho (by show 30 ≤ 40; omega)
  refine V_if_eq X (tgt := 15) (by decide) dL_fit_8 (fun hc8 => ?_) (fun hc8 => ?_)
  · refine V_lconst X (v := 0) (by decide) dL_fit_15 ?_
    refine V_last X (ho2) (by decide) (vp_in_nI (n := 0) (N := 1) (by decide) (by decide)) dL_fit_16 ?_
    refine V_goto X (tgt := 28) (by decide) dL_fit_17 ?_
    refine V_iconst X (v := 0) (by decide) dL_fit_28 ?_
    exact V_iret X hr (⟨rfl, f2, hp, by rw [bI_eq0 hc8]; rfl⟩) dL_fit_29
  · refine V_lconst X (v := 1) (by decide) dL_fit_11 ?_
    refine V_goto X (tgt := 16) (by decide) dL_fit_12 ?_
    refine V_last X (ho2) (by decide) (vp_in_nI (n := 0) (N := 1) (by decide) (by decide)) dL_fit_16 ?_
    refine V_goto X (tgt := 28) (by decide) dL_fit_17 ?_
    refine V_iconst X (v := 0) (by decide) dL_fit_28 ?_
    exact V_iret X hr (⟨rfl, f2, hp, by rw [bI_ne0 hc8]; rfl⟩) dL_fit_29
set_option maxHeartbeats 1000000 in
set_option maxRecDepth 100000 in
theorem h_fit_1 (l : Launch) (G : GG) (f : Wo) (x : Nat) (tx : Tg) (fs : List Value) (hx : f x = some (tx, .inr (5, fs))) (a : Int32) (b : Int32) (o : Nat) (hM : Cx l yX5_fit wsX5_fit 12 226 G [.ref x, .int a, .int b] f (fun _ _ => False) (fun E f' => E = "java/lang/IndexOutOfBoundsException" ∧ f' = f) 1 6) : Ch l yL_fit wsL_fit 13 249 G [.ref x, .int a, .int b, .ref o] f (fun r f' => r = some (.int 1) ∧ f' = f) 1 6 := by
  refine Ch.of (cc := cL_fit) (maxL := 5) (ret := (some .int)) (by decide) rfl (Nat.le_of_ble_eq_true rfl) (lv := [(0, _), (1, _), (2, _), (3, _)]) rfl (by simp [Value.category]) ?_
  intro K X hL hG hr hCF htab
  subst hL; subst hG
  refine V_aload_n X rfl dL_fit_0 ?_
  refine V_iconst X (v := 0) (by decide) dL_fit_1 ?_
  refine V_aload_n X rfl dL_fit_2 ?_
  refine V_iload_n X rfl dL_fit_3 ?_
  refine V_iload_n X rfl dL_fit_4 ?_
  refine V_callVX (kc' := 0) (ks' := 0) X (rest := _) hM hx rfl gL_fit_X5_fit rfl hdv_X5_fit (Nat.le_of_ble_eq_true rfl) (Nat.le_of_ble_eq_true rfl) rfl (Nat.le_of_ble_eq_true rfl) (by omega) (by omega) dL_fit_5 (fun E f2 h9 => ?_) (fun r9 f2 h9 => h9.elim)
  obtain ⟨rfl, rfl⟩ := h9
  refine V_catch X (name := "java/lang/IndexOutOfBoundsException") [] ⟨0, 17, 20, 24⟩ [⟨0, 17, 24, 15⟩] (htab.trans rfl) (fun z hz => absurd hz List.not_mem_nil) rfl (by decide) (by decide +kernel) (hCF.1 _ (List.mem_cons_of_mem _ (List.mem_cons_of_mem _ (List.mem_cons_self)))) (fun q => ?_)
  show V K f2 0 0 20 _ [.ref q]
  refine V_astore X (lv' := [(4, _), (0, _), (1, _), (2, _), (3, _)]) (by decide) rfl dL_fit_20 ?_
  refine V_iconst X (v := 1) (by decide) dL_fit_22 ?_
  exact V_iret X hr (⟨rfl, rfl⟩) dL_fit_23
set_option maxHeartbeats 1000000 in
set_option maxRecDepth 100000 in
theorem h_fit_2 (l : Launch) (G : GG) (f : Wo) (x : Nat) (tx : Tg) (fs : List Value) (hx : f x = some (tx, .inr (5, fs))) (a : Int32) (b : Int32) (o : Nat) (hM : Cx l yX5_fit wsX5_fit 12 226 G [.ref x, .int a, .int b] f (fun _ _ => False) (fun E f' => E = "java/lang/IllegalStateException" ∧ f' = f) 1 6) : Ch l yL_fit wsL_fit 13 249 G [.ref x, .int a, .int b, .ref o] f (fun r f' => r = some (.int 2) ∧ f' = f) 1 6 := by
  refine Ch.of (cc := cL_fit) (maxL := 5) (ret := (some .int)) (by decide) rfl (Nat.le_of_ble_eq_true rfl) (lv := [(0, _), (1, _), (2, _), (3, _)]) rfl (by simp [Value.category]) ?_
  intro K X hL hG hr hCF htab
  subst hL; subst hG
  refine V_aload_n X rfl dL_fit_0 ?_
  refine V_iconst X (v := 0) (by decide) dL_fit_1 ?_
  refine V_aload_n X rfl dL_fit_2 ?_
  refine V_iload_n X rfl dL_fit_3 ?_
  refine V_iload_n X rfl dL_fit_4 ?_
  refine V_callVX (kc' := 0) (ks' := 0) X (rest := _) hM hx rfl gL_fit_X5_fit rfl hdv_X5_fit (Nat.le_of_ble_eq_true rfl) (Nat.le_of_ble_eq_true rfl) rfl (Nat.le_of_ble_eq_true rfl) (by omega) (by omega) dL_fit_5 (fun E f2 h9 => ?_) (fun r9 f2 h9 => h9.elim)
  obtain ⟨rfl, rfl⟩ := h9
  refine V_catch X (name := "java/lang/IllegalStateException") [⟨0, 17, 20, 24⟩] ⟨0, 17, 24, 15⟩ [] (htab.trans rfl) (fun z hz => by
    cases List.mem_singleton.mp hz
    exact ⟨by decide, "java/lang/IndexOutOfBoundsException", by decide +kernel, hCF.2 ("java/lang/IllegalStateException", "java/lang/IndexOutOfBoundsException") (List.mem_cons_of_mem _ (List.mem_cons_self))⟩) rfl (by decide) (by decide +kernel) (hCF.1 _ (List.mem_cons_of_mem _ (List.mem_cons_self))) (fun q => ?_)
  show V K f2 0 0 24 _ [.ref q]
  refine V_astore X (lv' := [(4, _), (0, _), (1, _), (2, _), (3, _)]) (by decide) rfl dL_fit_24 ?_
  refine V_iconst X (v := 2) (by decide) dL_fit_26 ?_
  exact V_iret X hr (⟨rfl, rfl⟩) dL_fit_27
set_option maxHeartbeats 1000000 in
set_option maxRecDepth 100000 in
theorem h_accept_0 (l : Launch) (G : GG) (f : Wo) (x : Nat) (tx : Tg) (fs : List Value) (hx : f x = some (tx, .inr (5, fs))) (a : Int32) (b : Int32) (o : Nat) (g : Nat → Int64) (ho : f o = some ((40, 0), oJ1 G g)) (v : Bool) (P : Wo → Prop) (mc ms : Nat) (hM : Ct l yX5_accept wsX5_accept 11 204 G [.ref x, .int a, .int b] f (fun r f2 => r = some (.int (bI v)) ∧ P f2) mc ms) (hP : ∀ f2, P f2 → FrC f f2) : Ch l yL_accept wsL_accept 12 227 G [.ref x, .int a, .int b, .ref o] f (fun r f' => r = some (.int 0) ∧ ∃ f2, P f2 ∧ f' = w_up f2 o (40, 0) (oJ1 G (va_up g (0 : Int32).toNatClampNeg (bJ v)))) mc ms := by
  refine Ch.of (cc := cL_accept) (maxL := 5) (ret := (some .int)) (by decide) rfl (Nat.le_of_ble_eq_true rfl) (lv := [(0, _), (1, _), (2, _), (3, _)]) rfl (by simp [Value.category]) ?_
  intro K X hL hG hr hCF htab
  subst hL; subst hG
  refine V_aload_n X rfl dL_accept_0 ?_
  refine V_iconst X (v := 0) (by decide) dL_accept_1 ?_
  refine V_aload_n X rfl dL_accept_2 ?_
  refine V_iload_n X rfl dL_accept_3 ?_
  refine V_iload_n X rfl dL_accept_4 ?_
  refine V_callV (kc' := 0) (ks' := 0) X (rest := _) hM hx rfl gL_accept_X5_accept rfl hdv_X5_accept (Nat.le_of_ble_eq_true rfl) (Nat.le_of_ble_eq_true rfl) rfl (Nat.le_of_ble_eq_true rfl) (by omega) (by omega) dL_accept_5 (fun r9 f2 h9 => ?_)
  obtain ⟨rfl, hp⟩ := h9
  have ho2 := (hP f2 hp) o _ ho (by show 30 ≤ 40; omega)
  refine V_if_eq X (tgt := 15) (by decide) dL_accept_8 (fun hc8 => ?_) (fun hc8 => ?_)
  · refine V_lconst X (v := 0) (by decide) dL_accept_15 ?_
    refine V_last X (ho2) (by decide) (vp_in_nI (n := 0) (N := 1) (by decide) (by decide)) dL_accept_16 ?_
    refine V_goto X (tgt := 28) (by decide) dL_accept_17 ?_
    refine V_iconst X (v := 0) (by decide) dL_accept_28 ?_
    exact V_iret X hr (⟨rfl, f2, hp, by rw [bI_eq0 hc8]; rfl⟩) dL_accept_29
  · refine V_lconst X (v := 1) (by decide) dL_accept_11 ?_
    refine V_goto X (tgt := 16) (by decide) dL_accept_12 ?_
    refine V_last X (ho2) (by decide) (vp_in_nI (n := 0) (N := 1) (by decide) (by decide)) dL_accept_16 ?_
    refine V_goto X (tgt := 28) (by decide) dL_accept_17 ?_
    refine V_iconst X (v := 0) (by decide) dL_accept_28 ?_
    exact V_iret X hr (⟨rfl, f2, hp, by rw [bI_ne0 hc8]; rfl⟩) dL_accept_29
set_option maxHeartbeats 1000000 in
set_option maxRecDepth 100000 in
theorem h_accept_1 (l : Launch) (G : GG) (f : Wo) (x : Nat) (tx : Tg) (fs : List Value) (hx : f x = some (tx, .inr (5, fs))) (a : Int32) (b : Int32) (o : Nat) (hM : Cx l yX5_accept wsX5_accept 11 204 G [.ref x, .int a, .int b] f (fun _ _ => False) (fun E f' => E = "java/lang/IndexOutOfBoundsException" ∧ f' = f) 1 6) : Ch l yL_accept wsL_accept 12 227 G [.ref x, .int a, .int b, .ref o] f (fun r f' => r = some (.int 1) ∧ f' = f) 1 6 := by
  refine Ch.of (cc := cL_accept) (maxL := 5) (ret := (some .int)) (by decide) rfl (Nat.le_of_ble_eq_true rfl) (lv := [(0, _), (1, _), (2, _), (3, _)]) rfl (by simp [Value.category]) ?_
  intro K X hL hG hr hCF htab
  subst hL; subst hG
  refine V_aload_n X rfl dL_accept_0 ?_
  refine V_iconst X (v := 0) (by decide) dL_accept_1 ?_
  refine V_aload_n X rfl dL_accept_2 ?_
  refine V_iload_n X rfl dL_accept_3 ?_
  refine V_iload_n X rfl dL_accept_4 ?_
  refine V_callVX (kc' := 0) (ks' := 0) X (rest := _) hM hx rfl gL_accept_X5_accept rfl hdv_X5_accept (Nat.le_of_ble_eq_true rfl) (Nat.le_of_ble_eq_true rfl) rfl (Nat.le_of_ble_eq_true rfl) (by omega) (by omega) dL_accept_5 (fun E f2 h9 => ?_) (fun r9 f2 h9 => h9.elim)
  obtain ⟨rfl, rfl⟩ := h9
  refine V_catch X (name := "java/lang/IndexOutOfBoundsException") [] ⟨0, 17, 20, 24⟩ [⟨0, 17, 24, 15⟩] (htab.trans rfl) (fun z hz => absurd hz List.not_mem_nil) rfl (by decide) (by decide +kernel) (hCF.1 _ (List.mem_cons_of_mem _ (List.mem_cons_of_mem _ (List.mem_cons_self)))) (fun q => ?_)
  show V K f2 0 0 20 _ [.ref q]
  refine V_astore X (lv' := [(4, _), (0, _), (1, _), (2, _), (3, _)]) (by decide) rfl dL_accept_20 ?_
  refine V_iconst X (v := 1) (by decide) dL_accept_22 ?_
  exact V_iret X hr (⟨rfl, rfl⟩) dL_accept_23
set_option maxHeartbeats 1000000 in
set_option maxRecDepth 100000 in
theorem h_accept_2 (l : Launch) (G : GG) (f : Wo) (x : Nat) (tx : Tg) (fs : List Value) (hx : f x = some (tx, .inr (5, fs))) (a : Int32) (b : Int32) (o : Nat) (hM : Cx l yX5_accept wsX5_accept 11 204 G [.ref x, .int a, .int b] f (fun _ _ => False) (fun E f' => E = "java/lang/IllegalStateException" ∧ f' = f) 1 6) : Ch l yL_accept wsL_accept 12 227 G [.ref x, .int a, .int b, .ref o] f (fun r f' => r = some (.int 2) ∧ f' = f) 1 6 := by
  refine Ch.of (cc := cL_accept) (maxL := 5) (ret := (some .int)) (by decide) rfl (Nat.le_of_ble_eq_true rfl) (lv := [(0, _), (1, _), (2, _), (3, _)]) rfl (by simp [Value.category]) ?_
  intro K X hL hG hr hCF htab
  subst hL; subst hG
  refine V_aload_n X rfl dL_accept_0 ?_
  refine V_iconst X (v := 0) (by decide) dL_accept_1 ?_
  refine V_aload_n X rfl dL_accept_2 ?_
  refine V_iload_n X rfl dL_accept_3 ?_
  refine V_iload_n X rfl dL_accept_4 ?_
  refine V_callVX (kc' := 0) (ks' := 0) X (rest := _) hM hx rfl gL_accept_X5_accept rfl hdv_X5_accept (Nat.le_of_ble_eq_true rfl) (Nat.le_of_ble_eq_true rfl) rfl (Nat.le_of_ble_eq_true rfl) (by omega) (by omega) dL_accept_5 (fun E f2 h9 => ?_) (fun r9 f2 h9 => h9.elim)
  obtain ⟨rfl, rfl⟩ := h9
  refine V_catch X (name := "java/lang/IllegalStateException") [⟨0, 17, 20, 24⟩] ⟨0, 17, 24, 15⟩ [] (htab.trans rfl) (fun z hz => by
    cases List.mem_singleton.mp hz
    exact ⟨by decide, "java/lang/IndexOutOfBoundsException", by decide +kernel, hCF.2 ("java/lang/IllegalStateException", "java/lang/IndexOutOfBoundsException") (List.mem_cons_of_mem _ (List.mem_cons_self))⟩) rfl (by decide) (by decide +kernel) (hCF.1 _ (List.mem_cons_of_mem _ (List.mem_cons_self))) (fun q => ?_)
  show V K f2 0 0 24 _ [.ref q]
  refine V_astore X (lv' := [(4, _), (0, _), (1, _), (2, _), (3, _)]) (by decide) rfl dL_accept_24 ?_
  refine V_iconst X (v := 2) (by decide) dL_accept_26 ?_
  exact V_iret X hr (⟨rfl, rfl⟩) dL_accept_27
set_option maxHeartbeats 1000000 in
set_option maxRecDepth 100000 in
theorem h_decline_0 (l : Launch) (G : GG) (f : Wo) (x : Nat) (tx : Tg) (fs : List Value) (hx : f x = some (tx, .inr (5, fs))) (a : Int32) (b : Int32) (o : Nat) (g : Nat → Int64) (ho : f o = some ((40, 0), oJ1 G g)) (v : Int32) (P : Wo → Prop) (mc ms : Nat) (hM : Ct l yX5_decline wsX5_decline 11 204 G [.ref x, .int a, .int b] f (fun r f2 => r = some (.int v) ∧ P f2) mc ms) (hP : ∀ f2, P f2 → FrC f f2) : Ch l yL_decline wsL_decline 12 228 G [.ref x, .int a, .int b, .ref o] f (fun r f' => r = some (.int 0) ∧ ∃ f2, P f2 ∧ f' = w_up f2 o (40, 0) (oJ1 G (va_up g (0 : Int32).toNatClampNeg v.toInt64))) mc ms := by
  refine Ch.of (cc := cL_decline) (maxL := 5) (ret := (some .int)) (by decide) rfl (Nat.le_of_ble_eq_true rfl) (lv := [(0, _), (1, _), (2, _), (3, _)]) rfl (by simp [Value.category]) ?_
  intro K X hL hG hr hCF htab
  subst hL; subst hG
  refine V_aload_n X rfl dL_decline_0 ?_
  refine V_iconst X (v := 0) (by decide) dL_decline_1 ?_
  refine V_aload_n X rfl dL_decline_2 ?_
  refine V_iload_n X rfl dL_decline_3 ?_
  refine V_iload_n X rfl dL_decline_4 ?_
  refine V_callV (kc' := 0) (ks' := 0) X (rest := _) hM hx rfl gL_decline_X5_decline rfl hdv_X5_decline (Nat.le_of_ble_eq_true rfl) (Nat.le_of_ble_eq_true rfl) rfl (Nat.le_of_ble_eq_true rfl) (by omega) (by omega) dL_decline_5 (fun r9 f2 h9 => ?_)
  obtain ⟨rfl, hp⟩ := h9
  have ho2 := (hP f2 hp) o _ ho (by show 30 ≤ 40; omega)
  refine V_i2l X dL_decline_8 ?_
  refine V_last X (ho2) (by decide) (vp_in_nI (n := 0) (N := 1) (by decide) (by decide)) dL_decline_9 ?_
  refine V_goto X (tgt := 21) (by decide) dL_decline_10 ?_
  refine V_iconst X (v := 0) (by decide) dL_decline_21 ?_
  exact V_iret X hr (⟨rfl, f2, hp, rfl⟩) dL_decline_22
set_option maxHeartbeats 1000000 in
set_option maxRecDepth 100000 in
theorem h_decline_1 (l : Launch) (G : GG) (f : Wo) (x : Nat) (tx : Tg) (fs : List Value) (hx : f x = some (tx, .inr (5, fs))) (a : Int32) (b : Int32) (o : Nat) (hM : Cx l yX5_decline wsX5_decline 11 204 G [.ref x, .int a, .int b] f (fun _ _ => False) (fun E f' => E = "java/lang/IndexOutOfBoundsException" ∧ f' = f) 1 6) : Ch l yL_decline wsL_decline 12 228 G [.ref x, .int a, .int b, .ref o] f (fun r f' => r = some (.int 1) ∧ f' = f) 1 6 := by
  refine Ch.of (cc := cL_decline) (maxL := 5) (ret := (some .int)) (by decide) rfl (Nat.le_of_ble_eq_true rfl) (lv := [(0, _), (1, _), (2, _), (3, _)]) rfl (by simp [Value.category]) ?_
  intro K X hL hG hr hCF htab
  subst hL; subst hG
  refine V_aload_n X rfl dL_decline_0 ?_
  refine V_iconst X (v := 0) (by decide) dL_decline_1 ?_
  refine V_aload_n X rfl dL_decline_2 ?_
  refine V_iload_n X rfl dL_decline_3 ?_
  refine V_iload_n X rfl dL_decline_4 ?_
  refine V_callVX (kc' := 0) (ks' := 0) X (rest := _) hM hx rfl gL_decline_X5_decline rfl hdv_X5_decline (Nat.le_of_ble_eq_true rfl) (Nat.le_of_ble_eq_true rfl) rfl (Nat.le_of_ble_eq_true rfl) (by omega) (by omega) dL_decline_5 (fun E f2 h9 => ?_) (fun r9 f2 h9 => h9.elim)
  obtain ⟨rfl, rfl⟩ := h9
  refine V_catch X (name := "java/lang/IndexOutOfBoundsException") [] ⟨0, 10, 13, 24⟩ [⟨0, 10, 17, 15⟩] (htab.trans rfl) (fun z hz => absurd hz List.not_mem_nil) rfl (by decide) (by decide +kernel) (hCF.1 _ (List.mem_cons_of_mem _ (List.mem_cons_of_mem _ (List.mem_cons_self)))) (fun q => ?_)
  show V K f2 0 0 13 _ [.ref q]
  refine V_astore X (lv' := [(4, _), (0, _), (1, _), (2, _), (3, _)]) (by decide) rfl dL_decline_13 ?_
  refine V_iconst X (v := 1) (by decide) dL_decline_15 ?_
  exact V_iret X hr (⟨rfl, rfl⟩) dL_decline_16
set_option maxHeartbeats 1000000 in
set_option maxRecDepth 100000 in
theorem h_decline_2 (l : Launch) (G : GG) (f : Wo) (x : Nat) (tx : Tg) (fs : List Value) (hx : f x = some (tx, .inr (5, fs))) (a : Int32) (b : Int32) (o : Nat) (hM : Cx l yX5_decline wsX5_decline 11 204 G [.ref x, .int a, .int b] f (fun _ _ => False) (fun E f' => E = "java/lang/IllegalStateException" ∧ f' = f) 1 6) : Ch l yL_decline wsL_decline 12 228 G [.ref x, .int a, .int b, .ref o] f (fun r f' => r = some (.int 2) ∧ f' = f) 1 6 := by
  refine Ch.of (cc := cL_decline) (maxL := 5) (ret := (some .int)) (by decide) rfl (Nat.le_of_ble_eq_true rfl) (lv := [(0, _), (1, _), (2, _), (3, _)]) rfl (by simp [Value.category]) ?_
  intro K X hL hG hr hCF htab
  subst hL; subst hG
  refine V_aload_n X rfl dL_decline_0 ?_
  refine V_iconst X (v := 0) (by decide) dL_decline_1 ?_
  refine V_aload_n X rfl dL_decline_2 ?_
  refine V_iload_n X rfl dL_decline_3 ?_
  refine V_iload_n X rfl dL_decline_4 ?_
  refine V_callVX (kc' := 0) (ks' := 0) X (rest := _) hM hx rfl gL_decline_X5_decline rfl hdv_X5_decline (Nat.le_of_ble_eq_true rfl) (Nat.le_of_ble_eq_true rfl) rfl (Nat.le_of_ble_eq_true rfl) (by omega) (by omega) dL_decline_5 (fun E f2 h9 => ?_) (fun r9 f2 h9 => h9.elim)
  obtain ⟨rfl, rfl⟩ := h9
  refine V_catch X (name := "java/lang/IllegalStateException") [⟨0, 10, 13, 24⟩] ⟨0, 10, 17, 15⟩ [] (htab.trans rfl) (fun z hz => by
    cases List.mem_singleton.mp hz
    exact ⟨by decide, "java/lang/IndexOutOfBoundsException", by decide +kernel, hCF.2 ("java/lang/IllegalStateException", "java/lang/IndexOutOfBoundsException") (List.mem_cons_of_mem _ (List.mem_cons_self))⟩) rfl (by decide) (by decide +kernel) (hCF.1 _ (List.mem_cons_of_mem _ (List.mem_cons_self))) (fun q => ?_)
  show V K f2 0 0 17 _ [.ref q]
  refine V_astore X (lv' := [(4, _), (0, _), (1, _), (2, _), (3, _)]) (by decide) rfl dL_decline_17 ?_
  refine V_iconst X (v := 2) (by decide) dL_decline_19 ?_
  exact V_iret X hr (⟨rfl, rfl⟩) dL_decline_20
set_option maxHeartbeats 1000000 in
set_option maxRecDepth 100000 in
theorem h_finish_0 (l : Launch) (G : GG) (f : Wo) (x : Nat) (tx : Tg) (fs : List Value) (hx : f x = some (tx, .inr (5, fs))) (a : Int32) (b : Int32) (P : Wo → Prop) (mc ms : Nat) (hM : Ct l yX5_finish wsX5_finish 11 206 G [.ref x, .int a, .int b] f (fun r f2 => r = none ∧ P f2) mc ms) (hP : ∀ f2, P f2 → FrC f f2) : Ch l yL_finish wsL_finish 12 231 G [.ref x, .int a, .int b] f (fun r f' => r = some (.int 0) ∧ P f') mc ms := by
  refine Ch.of (cc := cL_finish) (maxL := 4) (ret := (some .int)) (by decide) rfl (Nat.le_of_ble_eq_true rfl) (lv := [(0, _), (1, _), (2, _)]) rfl (by simp [Value.category]) ?_
  intro K X hL hG hr hCF htab
  subst hL; subst hG
  refine V_aload_n X rfl dL_finish_0 ?_
  refine V_iload_n X rfl dL_finish_1 ?_
  refine V_iload_n X rfl dL_finish_2 ?_
  refine V_callV (kc' := 0) (ks' := 0) X (rest := _) hM hx rfl gL_finish_X5_finish rfl hdv_X5_finish (Nat.le_of_ble_eq_true rfl) (Nat.le_of_ble_eq_true rfl) rfl (Nat.le_of_ble_eq_true rfl) (by omega) (by omega) dL_finish_3 (fun r9 f2 h9 => ?_)
  obtain ⟨rfl, hp⟩ := h9
  refine V_goto X (tgt := 18) (by decide) dL_finish_6 ?_
  refine V_iconst X (v := 0) (by decide) dL_finish_18 ?_
  exact V_iret X hr (⟨rfl, hp⟩) dL_finish_19
set_option maxHeartbeats 1000000 in
set_option maxRecDepth 100000 in
theorem h_finish_1 (l : Launch) (G : GG) (f : Wo) (x : Nat) (tx : Tg) (fs : List Value) (hx : f x = some (tx, .inr (5, fs))) (a : Int32) (b : Int32) (hM : Cx l yX5_finish wsX5_finish 11 206 G [.ref x, .int a, .int b] f (fun _ _ => False) (fun E f' => E = "java/lang/IndexOutOfBoundsException" ∧ f' = f) 1 6) : Ch l yL_finish wsL_finish 12 231 G [.ref x, .int a, .int b] f (fun r f' => r = some (.int 1) ∧ f' = f) 1 6 := by
  refine Ch.of (cc := cL_finish) (maxL := 4) (ret := (some .int)) (by decide) rfl (Nat.le_of_ble_eq_true rfl) (lv := [(0, _), (1, _), (2, _)]) rfl (by simp [Value.category]) ?_
  intro K X hL hG hr hCF htab
  subst hL; subst hG
  refine V_aload_n X rfl dL_finish_0 ?_
  refine V_iload_n X rfl dL_finish_1 ?_
  refine V_iload_n X rfl dL_finish_2 ?_
  refine V_callVX (kc' := 0) (ks' := 0) X (rest := _) hM hx rfl gL_finish_X5_finish rfl hdv_X5_finish (Nat.le_of_ble_eq_true rfl) (Nat.le_of_ble_eq_true rfl) rfl (Nat.le_of_ble_eq_true rfl) (by omega) (by omega) dL_finish_3 (fun E f2 h9 => ?_) (fun r9 f2 h9 => h9.elim)
  obtain ⟨rfl, rfl⟩ := h9
  refine V_catch X (name := "java/lang/IndexOutOfBoundsException") [] ⟨0, 6, 9, 24⟩ [⟨0, 6, 12, 13⟩, ⟨0, 6, 15, 15⟩] (htab.trans rfl) (fun z hz => absurd hz List.not_mem_nil) rfl (by decide) (by decide +kernel) (hCF.1 _ (List.mem_cons_of_mem _ (List.mem_cons_of_mem _ (List.mem_cons_self)))) (fun q => ?_)
  show V K f2 0 0 9 _ [.ref q]
  refine V_astore_n X (lv' := [(3, _), (0, _), (1, _), (2, _)]) (by decide) rfl dL_finish_9 ?_
  refine V_iconst X (v := 1) (by decide) dL_finish_10 ?_
  exact V_iret X hr (⟨rfl, rfl⟩) dL_finish_11
set_option maxHeartbeats 1000000 in
set_option maxRecDepth 100000 in
theorem h_finish_2 (l : Launch) (G : GG) (f : Wo) (x : Nat) (tx : Tg) (fs : List Value) (hx : f x = some (tx, .inr (5, fs))) (a : Int32) (b : Int32) (hM : Cx l yX5_finish wsX5_finish 11 206 G [.ref x, .int a, .int b] f (fun _ _ => False) (fun E f' => E = "java/lang/IllegalArgumentException" ∧ f' = f) 1 6) : Ch l yL_finish wsL_finish 12 231 G [.ref x, .int a, .int b] f (fun r f' => r = some (.int 2) ∧ f' = f) 1 6 := by
  refine Ch.of (cc := cL_finish) (maxL := 4) (ret := (some .int)) (by decide) rfl (Nat.le_of_ble_eq_true rfl) (lv := [(0, _), (1, _), (2, _)]) rfl (by simp [Value.category]) ?_
  intro K X hL hG hr hCF htab
  subst hL; subst hG
  refine V_aload_n X rfl dL_finish_0 ?_
  refine V_iload_n X rfl dL_finish_1 ?_
  refine V_iload_n X rfl dL_finish_2 ?_
  refine V_callVX (kc' := 0) (ks' := 0) X (rest := _) hM hx rfl gL_finish_X5_finish rfl hdv_X5_finish (Nat.le_of_ble_eq_true rfl) (Nat.le_of_ble_eq_true rfl) rfl (Nat.le_of_ble_eq_true rfl) (by omega) (by omega) dL_finish_3 (fun E f2 h9 => ?_) (fun r9 f2 h9 => h9.elim)
  obtain ⟨rfl, rfl⟩ := h9
  refine V_catch X (name := "java/lang/IllegalArgumentException") [⟨0, 6, 9, 24⟩] ⟨0, 6, 12, 13⟩ [⟨0, 6, 15, 15⟩] (htab.trans rfl) (fun z hz => by
    cases List.mem_singleton.mp hz
    exact ⟨by decide, "java/lang/IndexOutOfBoundsException", by decide +kernel, hCF.2 ("java/lang/IllegalArgumentException", "java/lang/IndexOutOfBoundsException") (List.mem_cons_of_mem _ (List.mem_cons_of_mem _ (List.mem_cons_self)))⟩) rfl (by decide) (by decide +kernel) (hCF.1 _ (List.mem_cons_self)) (fun q => ?_)
  show V K f2 0 0 12 _ [.ref q]
  refine V_astore_n X (lv' := [(3, _), (0, _), (1, _), (2, _)]) (by decide) rfl dL_finish_12 ?_
  refine V_iconst X (v := 2) (by decide) dL_finish_13 ?_
  exact V_iret X hr (⟨rfl, rfl⟩) dL_finish_14
set_option maxHeartbeats 1000000 in
set_option maxRecDepth 100000 in
theorem h_finish_3 (l : Launch) (G : GG) (f : Wo) (x : Nat) (tx : Tg) (fs : List Value) (hx : f x = some (tx, .inr (5, fs))) (a : Int32) (b : Int32) (hM : Cx l yX5_finish wsX5_finish 11 206 G [.ref x, .int a, .int b] f (fun _ _ => False) (fun E f' => E = "java/lang/IllegalStateException" ∧ f' = f) 1 6) : Ch l yL_finish wsL_finish 12 231 G [.ref x, .int a, .int b] f (fun r f' => r = some (.int 3) ∧ f' = f) 1 6 := by
  refine Ch.of (cc := cL_finish) (maxL := 4) (ret := (some .int)) (by decide) rfl (Nat.le_of_ble_eq_true rfl) (lv := [(0, _), (1, _), (2, _)]) rfl (by simp [Value.category]) ?_
  intro K X hL hG hr hCF htab
  subst hL; subst hG
  refine V_aload_n X rfl dL_finish_0 ?_
  refine V_iload_n X rfl dL_finish_1 ?_
  refine V_iload_n X rfl dL_finish_2 ?_
  refine V_callVX (kc' := 0) (ks' := 0) X (rest := _) hM hx rfl gL_finish_X5_finish rfl hdv_X5_finish (Nat.le_of_ble_eq_true rfl) (Nat.le_of_ble_eq_true rfl) rfl (Nat.le_of_ble_eq_true rfl) (by omega) (by omega) dL_finish_3 (fun E f2 h9 => ?_) (fun r9 f2 h9 => h9.elim)
  obtain ⟨rfl, rfl⟩ := h9
  refine V_catch X (name := "java/lang/IllegalStateException") [⟨0, 6, 9, 24⟩, ⟨0, 6, 12, 13⟩] ⟨0, 6, 15, 15⟩ [] (htab.trans rfl) (fun z hz => by
    rcases List.mem_cons.mp hz with hz | hz
    · cases hz; exact ⟨by decide, "java/lang/IndexOutOfBoundsException", by decide +kernel, hCF.2 ("java/lang/IllegalStateException", "java/lang/IndexOutOfBoundsException") (List.mem_cons_of_mem _ (List.mem_cons_self))⟩
    · cases List.mem_singleton.mp hz
      exact ⟨by decide, "java/lang/IllegalArgumentException", by decide +kernel, hCF.2 ("java/lang/IllegalStateException", "java/lang/IllegalArgumentException") (List.mem_cons_self)⟩) rfl (by decide) (by decide +kernel) (hCF.1 _ (List.mem_cons_of_mem _ (List.mem_cons_self))) (fun q => ?_)
  show V K f2 0 0 15 _ [.ref q]
  refine V_astore_n X (lv' := [(3, _), (0, _), (1, _), (2, _)]) (by decide) rfl dL_finish_15 ?_
  refine V_iconst X (v := 3) (by decide) dL_finish_16 ?_
  exact V_iret X hr (⟨rfl, rfl⟩) dL_finish_17
set_option maxHeartbeats 1000000 in
set_option maxRecDepth 100000 in
theorem h_matchState_0 (l : Launch) (G : GG) (f : Wo) (x : Nat) (tx : Tg) (fs : List Value) (hx : f x = some (tx, .inr (5, fs))) (a : Int32) (o : Nat) (g : Nat → Int64) (ho : f o = some ((40, 0), oJ1 G g)) (v : Int32) (P : Wo → Prop) (mc ms : Nat) (hM : Ct l yX5_matchState wsX5_matchState 10 181 G [.ref x, .int a] f (fun r f2 => r = some (.int v) ∧ P f2) mc ms) (hP : ∀ f2, P f2 → FrC f f2) : Ch l yL_matchState wsL_matchState 11 202 G [.ref x, .int a, .ref o] f (fun r f' => r = some (.int 0) ∧ ∃ f2, P f2 ∧ f' = w_up f2 o (40, 0) (oJ1 G (va_up g (0 : Int32).toNatClampNeg v.toInt64))) mc ms := by
  refine Ch.of (cc := cL_matchState) (maxL := 4) (ret := (some .int)) (by decide) rfl (Nat.le_of_ble_eq_true rfl) (lv := [(0, _), (1, _), (2, _)]) rfl (by simp [Value.category]) ?_
  intro K X hL hG hr hCF htab
  subst hL; subst hG
  refine V_aload_n X rfl dL_matchState_0 ?_
  refine V_iconst X (v := 0) (by decide) dL_matchState_1 ?_
  refine V_aload_n X rfl dL_matchState_2 ?_
  refine V_iload_n X rfl dL_matchState_3 ?_
  refine V_callV (kc' := 0) (ks' := 0) X (rest := _) hM hx rfl gL_matchState_X5_matchState rfl hdv_X5_matchState (Nat.le_of_ble_eq_true rfl) (Nat.le_of_ble_eq_true rfl) rfl (Nat.le_of_ble_eq_true rfl) (by omega) (by omega) dL_matchState_4 (fun r9 f2 h9 => ?_)
  obtain ⟨rfl, hp⟩ := h9
  have ho2 := (hP f2 hp) o _ ho (by show 30 ≤ 40; omega)
  refine V_i2l X dL_matchState_7 ?_
  refine V_last X (ho2) (by decide) (vp_in_nI (n := 0) (N := 1) (by decide) (by decide)) dL_matchState_8 ?_
  refine V_goto X (tgt := 15) (by decide) dL_matchState_9 ?_
  refine V_iconst X (v := 0) (by decide) dL_matchState_15 ?_
  exact V_iret X hr (⟨rfl, f2, hp, rfl⟩) dL_matchState_16
set_option maxHeartbeats 1000000 in
set_option maxRecDepth 100000 in
theorem h_matchState_1 (l : Launch) (G : GG) (f : Wo) (x : Nat) (tx : Tg) (fs : List Value) (hx : f x = some (tx, .inr (5, fs))) (a : Int32) (o : Nat) (hM : Cx l yX5_matchState wsX5_matchState 10 181 G [.ref x, .int a] f (fun _ _ => False) (fun E f' => E = "java/lang/IndexOutOfBoundsException" ∧ f' = f) 1 6) : Ch l yL_matchState wsL_matchState 11 202 G [.ref x, .int a, .ref o] f (fun r f' => r = some (.int 1) ∧ f' = f) 1 6 := by
  refine Ch.of (cc := cL_matchState) (maxL := 4) (ret := (some .int)) (by decide) rfl (Nat.le_of_ble_eq_true rfl) (lv := [(0, _), (1, _), (2, _)]) rfl (by simp [Value.category]) ?_
  intro K X hL hG hr hCF htab
  subst hL; subst hG
  refine V_aload_n X rfl dL_matchState_0 ?_
  refine V_iconst X (v := 0) (by decide) dL_matchState_1 ?_
  refine V_aload_n X rfl dL_matchState_2 ?_
  refine V_iload_n X rfl dL_matchState_3 ?_
  refine V_callVX (kc' := 0) (ks' := 0) X (rest := _) hM hx rfl gL_matchState_X5_matchState rfl hdv_X5_matchState (Nat.le_of_ble_eq_true rfl) (Nat.le_of_ble_eq_true rfl) rfl (Nat.le_of_ble_eq_true rfl) (by omega) (by omega) dL_matchState_4 (fun E f2 h9 => ?_) (fun r9 f2 h9 => h9.elim)
  obtain ⟨rfl, rfl⟩ := h9
  refine V_catch X (name := "java/lang/IndexOutOfBoundsException") [] ⟨0, 9, 12, 24⟩ [] (htab.trans rfl) (fun z hz => absurd hz List.not_mem_nil) rfl (by decide) (by decide +kernel) (hCF.1 _ (List.mem_cons_of_mem _ (List.mem_cons_of_mem _ (List.mem_cons_self)))) (fun q => ?_)
  show V K f2 0 0 12 _ [.ref q]
  refine V_astore_n X (lv' := [(3, _), (0, _), (1, _), (2, _)]) (by decide) rfl dL_matchState_12 ?_
  refine V_iconst X (v := 1) (by decide) dL_matchState_13 ?_
  exact V_iret X hr (⟨rfl, rfl⟩) dL_matchState_14
set_option maxHeartbeats 1000000 in
set_option maxRecDepth 100000 in
theorem h_team_0 (l : Launch) (G : GG) (f : Wo) (x : Nat) (tx : Tg) (fs : List Value) (hx : f x = some (tx, .inr (5, fs))) (a : Int32) (b : Int32) (o : Nat) (g : Nat → Int64) (ho : f o = some ((40, 0), oJ1 G g)) (v : Int32) (P : Wo → Prop) (mc ms : Nat) (hM : Ct l yX5_team wsX5_team 10 181 G [.ref x, .int a, .int b] f (fun r f2 => r = some (.int v) ∧ P f2) mc ms) (hP : ∀ f2, P f2 → FrC f f2) : Ch l yL_team wsL_team 11 204 G [.ref x, .int a, .int b, .ref o] f (fun r f' => r = some (.int 0) ∧ ∃ f2, P f2 ∧ f' = w_up f2 o (40, 0) (oJ1 G (va_up g (0 : Int32).toNatClampNeg v.toInt64))) mc ms := by
  refine Ch.of (cc := cL_team) (maxL := 5) (ret := (some .int)) (by decide) rfl (Nat.le_of_ble_eq_true rfl) (lv := [(0, _), (1, _), (2, _), (3, _)]) rfl (by simp [Value.category]) ?_
  intro K X hL hG hr hCF htab
  subst hL; subst hG
  refine V_aload_n X rfl dL_team_0 ?_
  refine V_iconst X (v := 0) (by decide) dL_team_1 ?_
  refine V_aload_n X rfl dL_team_2 ?_
  refine V_iload_n X rfl dL_team_3 ?_
  refine V_iload_n X rfl dL_team_4 ?_
  refine V_callV (kc' := 0) (ks' := 0) X (rest := _) hM hx rfl gL_team_X5_team rfl hdv_X5_team (Nat.le_of_ble_eq_true rfl) (Nat.le_of_ble_eq_true rfl) rfl (Nat.le_of_ble_eq_true rfl) (by omega) (by omega) dL_team_5 (fun r9 f2 h9 => ?_)
  obtain ⟨rfl, hp⟩ := h9
  have ho2 := (hP f2 hp) o _ ho (by show 30 ≤ 40; omega)
  refine V_i2l X dL_team_8 ?_
  refine V_last X (ho2) (by decide) (vp_in_nI (n := 0) (N := 1) (by decide) (by decide)) dL_team_9 ?_
  refine V_goto X (tgt := 21) (by decide) dL_team_10 ?_
  refine V_iconst X (v := 0) (by decide) dL_team_21 ?_
  exact V_iret X hr (⟨rfl, f2, hp, rfl⟩) dL_team_22
set_option maxHeartbeats 1000000 in
set_option maxRecDepth 100000 in
theorem h_team_1 (l : Launch) (G : GG) (f : Wo) (x : Nat) (tx : Tg) (fs : List Value) (hx : f x = some (tx, .inr (5, fs))) (a : Int32) (b : Int32) (o : Nat) (hM : Cx l yX5_team wsX5_team 10 181 G [.ref x, .int a, .int b] f (fun _ _ => False) (fun E f' => E = "java/lang/IndexOutOfBoundsException" ∧ f' = f) 1 6) : Ch l yL_team wsL_team 11 204 G [.ref x, .int a, .int b, .ref o] f (fun r f' => r = some (.int 1) ∧ f' = f) 1 6 := by
  refine Ch.of (cc := cL_team) (maxL := 5) (ret := (some .int)) (by decide) rfl (Nat.le_of_ble_eq_true rfl) (lv := [(0, _), (1, _), (2, _), (3, _)]) rfl (by simp [Value.category]) ?_
  intro K X hL hG hr hCF htab
  subst hL; subst hG
  refine V_aload_n X rfl dL_team_0 ?_
  refine V_iconst X (v := 0) (by decide) dL_team_1 ?_
  refine V_aload_n X rfl dL_team_2 ?_
  refine V_iload_n X rfl dL_team_3 ?_
  refine V_iload_n X rfl dL_team_4 ?_
  refine V_callVX (kc' := 0) (ks' := 0) X (rest := _) hM hx rfl gL_team_X5_team rfl hdv_X5_team (Nat.le_of_ble_eq_true rfl) (Nat.le_of_ble_eq_true rfl) rfl (Nat.le_of_ble_eq_true rfl) (by omega) (by omega) dL_team_5 (fun E f2 h9 => ?_) (fun r9 f2 h9 => h9.elim)
  obtain ⟨rfl, rfl⟩ := h9
  refine V_catch X (name := "java/lang/IndexOutOfBoundsException") [] ⟨0, 10, 13, 24⟩ [⟨0, 10, 17, 13⟩] (htab.trans rfl) (fun z hz => absurd hz List.not_mem_nil) rfl (by decide) (by decide +kernel) (hCF.1 _ (List.mem_cons_of_mem _ (List.mem_cons_of_mem _ (List.mem_cons_self)))) (fun q => ?_)
  show V K f2 0 0 13 _ [.ref q]
  refine V_astore X (lv' := [(4, _), (0, _), (1, _), (2, _), (3, _)]) (by decide) rfl dL_team_13 ?_
  refine V_iconst X (v := 1) (by decide) dL_team_15 ?_
  exact V_iret X hr (⟨rfl, rfl⟩) dL_team_16
set_option maxHeartbeats 1000000 in
set_option maxRecDepth 100000 in
theorem h_team_2 (l : Launch) (G : GG) (f : Wo) (x : Nat) (tx : Tg) (fs : List Value) (hx : f x = some (tx, .inr (5, fs))) (a : Int32) (b : Int32) (o : Nat) (hM : Cx l yX5_team wsX5_team 10 181 G [.ref x, .int a, .int b] f (fun _ _ => False) (fun E f' => E = "java/lang/IllegalArgumentException" ∧ f' = f) 1 6) : Ch l yL_team wsL_team 11 204 G [.ref x, .int a, .int b, .ref o] f (fun r f' => r = some (.int 2) ∧ f' = f) 1 6 := by
  refine Ch.of (cc := cL_team) (maxL := 5) (ret := (some .int)) (by decide) rfl (Nat.le_of_ble_eq_true rfl) (lv := [(0, _), (1, _), (2, _), (3, _)]) rfl (by simp [Value.category]) ?_
  intro K X hL hG hr hCF htab
  subst hL; subst hG
  refine V_aload_n X rfl dL_team_0 ?_
  refine V_iconst X (v := 0) (by decide) dL_team_1 ?_
  refine V_aload_n X rfl dL_team_2 ?_
  refine V_iload_n X rfl dL_team_3 ?_
  refine V_iload_n X rfl dL_team_4 ?_
  refine V_callVX (kc' := 0) (ks' := 0) X (rest := _) hM hx rfl gL_team_X5_team rfl hdv_X5_team (Nat.le_of_ble_eq_true rfl) (Nat.le_of_ble_eq_true rfl) rfl (Nat.le_of_ble_eq_true rfl) (by omega) (by omega) dL_team_5 (fun E f2 h9 => ?_) (fun r9 f2 h9 => h9.elim)
  obtain ⟨rfl, rfl⟩ := h9
  refine V_catch X (name := "java/lang/IllegalArgumentException") [⟨0, 10, 13, 24⟩] ⟨0, 10, 17, 13⟩ [] (htab.trans rfl) (fun z hz => by
    cases List.mem_singleton.mp hz
    exact ⟨by decide, "java/lang/IndexOutOfBoundsException", by decide +kernel, hCF.2 ("java/lang/IllegalArgumentException", "java/lang/IndexOutOfBoundsException") (List.mem_cons_of_mem _ (List.mem_cons_of_mem _ (List.mem_cons_self)))⟩) rfl (by decide) (by decide +kernel) (hCF.1 _ (List.mem_cons_self)) (fun q => ?_)
  show V K f2 0 0 17 _ [.ref q]
  refine V_astore X (lv' := [(4, _), (0, _), (1, _), (2, _), (3, _)]) (by decide) rfl dL_team_17 ?_
  refine V_iconst X (v := 2) (by decide) dL_team_19 ?_
  exact V_iret X hr (⟨rfl, rfl⟩) dL_team_20
set_option maxHeartbeats 1000000 in
set_option maxRecDepth 100000 in
theorem h_unevenness_0 (l : Launch) (G : GG) (f : Wo) (x : Nat) (tx : Tg) (fs : List Value) (hx : f x = some (tx, .inr (5, fs))) (a : Int32) (o : Nat) (g : Nat → Int64) (ho : f o = some ((40, 0), oJ1 G g)) (v : Int32) (P : Wo → Prop) (mc ms : Nat) (hM : Ct l yX5_unevenness wsX5_unevenness 10 181 G [.ref x, .int a] f (fun r f2 => r = some (.int v) ∧ P f2) mc ms) (hP : ∀ f2, P f2 → FrC f f2) : Ch l yL_unevenness wsL_unevenness 11 202 G [.ref x, .int a, .ref o] f (fun r f' => r = some (.int 0) ∧ ∃ f2, P f2 ∧ f' = w_up f2 o (40, 0) (oJ1 G (va_up g (0 : Int32).toNatClampNeg v.toInt64))) mc ms := by
  refine Ch.of (cc := cL_unevenness) (maxL := 4) (ret := (some .int)) (by decide) rfl (Nat.le_of_ble_eq_true rfl) (lv := [(0, _), (1, _), (2, _)]) rfl (by simp [Value.category]) ?_
  intro K X hL hG hr hCF htab
  subst hL; subst hG
  refine V_aload_n X rfl dL_unevenness_0 ?_
  refine V_iconst X (v := 0) (by decide) dL_unevenness_1 ?_
  refine V_aload_n X rfl dL_unevenness_2 ?_
  refine V_iload_n X rfl dL_unevenness_3 ?_
  refine V_callV (kc' := 0) (ks' := 0) X (rest := _) hM hx rfl gL_unevenness_X5_unevenness rfl hdv_X5_unevenness (Nat.le_of_ble_eq_true rfl) (Nat.le_of_ble_eq_true rfl) rfl (Nat.le_of_ble_eq_true rfl) (by omega) (by omega) dL_unevenness_4 (fun r9 f2 h9 => ?_)
  obtain ⟨rfl, hp⟩ := h9
  have ho2 := (hP f2 hp) o _ ho (by show 30 ≤ 40; omega)
  refine V_i2l X dL_unevenness_7 ?_
  refine V_last X (ho2) (by decide) (vp_in_nI (n := 0) (N := 1) (by decide) (by decide)) dL_unevenness_8 ?_
  refine V_goto X (tgt := 15) (by decide) dL_unevenness_9 ?_
  refine V_iconst X (v := 0) (by decide) dL_unevenness_15 ?_
  exact V_iret X hr (⟨rfl, f2, hp, rfl⟩) dL_unevenness_16
set_option maxHeartbeats 1000000 in
set_option maxRecDepth 100000 in
theorem h_unevenness_1 (l : Launch) (G : GG) (f : Wo) (x : Nat) (tx : Tg) (fs : List Value) (hx : f x = some (tx, .inr (5, fs))) (a : Int32) (o : Nat) (hM : Cx l yX5_unevenness wsX5_unevenness 10 181 G [.ref x, .int a] f (fun _ _ => False) (fun E f' => E = "java/lang/IndexOutOfBoundsException" ∧ f' = f) 1 6) : Ch l yL_unevenness wsL_unevenness 11 202 G [.ref x, .int a, .ref o] f (fun r f' => r = some (.int 1) ∧ f' = f) 1 6 := by
  refine Ch.of (cc := cL_unevenness) (maxL := 4) (ret := (some .int)) (by decide) rfl (Nat.le_of_ble_eq_true rfl) (lv := [(0, _), (1, _), (2, _)]) rfl (by simp [Value.category]) ?_
  intro K X hL hG hr hCF htab
  subst hL; subst hG
  refine V_aload_n X rfl dL_unevenness_0 ?_
  refine V_iconst X (v := 0) (by decide) dL_unevenness_1 ?_
  refine V_aload_n X rfl dL_unevenness_2 ?_
  refine V_iload_n X rfl dL_unevenness_3 ?_
  refine V_callVX (kc' := 0) (ks' := 0) X (rest := _) hM hx rfl gL_unevenness_X5_unevenness rfl hdv_X5_unevenness (Nat.le_of_ble_eq_true rfl) (Nat.le_of_ble_eq_true rfl) rfl (Nat.le_of_ble_eq_true rfl) (by omega) (by omega) dL_unevenness_4 (fun E f2 h9 => ?_) (fun r9 f2 h9 => h9.elim)
  obtain ⟨rfl, rfl⟩ := h9
  refine V_catch X (name := "java/lang/IndexOutOfBoundsException") [] ⟨0, 9, 12, 24⟩ [] (htab.trans rfl) (fun z hz => absurd hz List.not_mem_nil) rfl (by decide) (by decide +kernel) (hCF.1 _ (List.mem_cons_of_mem _ (List.mem_cons_of_mem _ (List.mem_cons_self)))) (fun q => ?_)
  show V K f2 0 0 12 _ [.ref q]
  refine V_astore_n X (lv' := [(3, _), (0, _), (1, _), (2, _)]) (by decide) rfl dL_unevenness_12 ?_
  refine V_iconst X (v := 1) (by decide) dL_unevenness_13 ?_
  exact V_iret X hr (⟨rfl, rfl⟩) dL_unevenness_14
set_option maxHeartbeats 1000000 in
set_option maxRecDepth 100000 in
theorem h_pass_0 (l : Launch) (G : GG) (f : Wo) (x : Nat) (tx : Tg) (fs : List Value) (hx : f x = some (tx, .inr (5, fs))) (a : Int32) (o : Nat) (g : Nat → Int64) (ho : f o = some ((40, 0), oJ1 G g)) (v : Int32) (P : Wo → Prop) (mc ms : Nat) (hM : Ct l yX5_pass wsX5_pass 12 224 G [.ref x, .int a] f (fun r f2 => r = some (.int v) ∧ P f2) mc ms) (hP : ∀ f2, P f2 → FrC f f2) : Ch l yL_pass wsL_pass 13 248 G [.ref x, .int a, .ref o] f (fun r f' => r = some (.int 0) ∧ ∃ f2, P f2 ∧ f' = w_up f2 o (40, 0) (oJ1 G (va_up g (0 : Int32).toNatClampNeg v.toInt64))) mc ms := by
  refine Ch.of (cc := cL_pass) (maxL := 4) (ret := (some .int)) (by decide) rfl (Nat.le_of_ble_eq_true rfl) (lv := [(0, _), (1, _), (2, _)]) rfl (by simp [Value.category]) ?_
  intro K X hL hG hr hCF htab
  subst hL; subst hG
  refine V_aload_n X rfl dL_pass_0 ?_
  refine V_iconst X (v := 0) (by decide) dL_pass_1 ?_
  refine V_aload_n X rfl dL_pass_2 ?_
  refine V_iload_n X rfl dL_pass_3 ?_
  refine V_callV (kc' := 0) (ks' := 0) X (rest := _) hM hx rfl gL_pass_X5_pass rfl hdv_X5_pass (Nat.le_of_ble_eq_true rfl) (Nat.le_of_ble_eq_true rfl) rfl (Nat.le_of_ble_eq_true rfl) (by omega) (by omega) dL_pass_4 (fun r9 f2 h9 => ?_)
  obtain ⟨rfl, hp⟩ := h9
  have ho2 := (hP f2 hp) o _ ho (by show 30 ≤ 40; omega)
  refine V_i2l X dL_pass_7 ?_
  refine V_last X (ho2) (by decide) (vp_in_nI (n := 0) (N := 1) (by decide) (by decide)) dL_pass_8 ?_
  refine V_goto X (tgt := 18) (by decide) dL_pass_9 ?_
  refine V_iconst X (v := 0) (by decide) dL_pass_18 ?_
  exact V_iret X hr (⟨rfl, f2, hp, rfl⟩) dL_pass_19
set_option maxHeartbeats 1000000 in
set_option maxRecDepth 100000 in
theorem h_pass_1 (l : Launch) (G : GG) (f : Wo) (x : Nat) (tx : Tg) (fs : List Value) (hx : f x = some (tx, .inr (5, fs))) (a : Int32) (o : Nat) (hM : Cx l yX5_pass wsX5_pass 12 224 G [.ref x, .int a] f (fun _ _ => False) (fun E f' => E = "java/lang/IllegalArgumentException" ∧ f' = f) 1 6) : Ch l yL_pass wsL_pass 13 248 G [.ref x, .int a, .ref o] f (fun r f' => r = some (.int 1) ∧ f' = f) 1 6 := by
  refine Ch.of (cc := cL_pass) (maxL := 4) (ret := (some .int)) (by decide) rfl (Nat.le_of_ble_eq_true rfl) (lv := [(0, _), (1, _), (2, _)]) rfl (by simp [Value.category]) ?_
  intro K X hL hG hr hCF htab
  subst hL; subst hG
  refine V_aload_n X rfl dL_pass_0 ?_
  refine V_iconst X (v := 0) (by decide) dL_pass_1 ?_
  refine V_aload_n X rfl dL_pass_2 ?_
  refine V_iload_n X rfl dL_pass_3 ?_
  refine V_callVX (kc' := 0) (ks' := 0) X (rest := _) hM hx rfl gL_pass_X5_pass rfl hdv_X5_pass (Nat.le_of_ble_eq_true rfl) (Nat.le_of_ble_eq_true rfl) rfl (Nat.le_of_ble_eq_true rfl) (by omega) (by omega) dL_pass_4 (fun E f2 h9 => ?_) (fun r9 f2 h9 => h9.elim)
  obtain ⟨rfl, rfl⟩ := h9
  refine V_catch X (name := "java/lang/IllegalArgumentException") [] ⟨0, 9, 12, 13⟩ [⟨0, 9, 15, 15⟩] (htab.trans rfl) (fun z hz => absurd hz List.not_mem_nil) rfl (by decide) (by decide +kernel) (hCF.1 _ (List.mem_cons_self)) (fun q => ?_)
  show V K f2 0 0 12 _ [.ref q]
  refine V_astore_n X (lv' := [(3, _), (0, _), (1, _), (2, _)]) (by decide) rfl dL_pass_12 ?_
  refine V_iconst X (v := 1) (by decide) dL_pass_13 ?_
  exact V_iret X hr (⟨rfl, rfl⟩) dL_pass_14
set_option maxHeartbeats 1000000 in
set_option maxRecDepth 100000 in
theorem h_pass_2 (l : Launch) (G : GG) (f : Wo) (x : Nat) (tx : Tg) (fs : List Value) (hx : f x = some (tx, .inr (5, fs))) (a : Int32) (o : Nat) (hM : Cx l yX5_pass wsX5_pass 12 224 G [.ref x, .int a] f (fun _ _ => False) (fun E f' => E = "java/lang/IllegalStateException" ∧ f' = f) 1 6) : Ch l yL_pass wsL_pass 13 248 G [.ref x, .int a, .ref o] f (fun r f' => r = some (.int 2) ∧ f' = f) 1 6 := by
  refine Ch.of (cc := cL_pass) (maxL := 4) (ret := (some .int)) (by decide) rfl (Nat.le_of_ble_eq_true rfl) (lv := [(0, _), (1, _), (2, _)]) rfl (by simp [Value.category]) ?_
  intro K X hL hG hr hCF htab
  subst hL; subst hG
  refine V_aload_n X rfl dL_pass_0 ?_
  refine V_iconst X (v := 0) (by decide) dL_pass_1 ?_
  refine V_aload_n X rfl dL_pass_2 ?_
  refine V_iload_n X rfl dL_pass_3 ?_
  refine V_callVX (kc' := 0) (ks' := 0) X (rest := _) hM hx rfl gL_pass_X5_pass rfl hdv_X5_pass (Nat.le_of_ble_eq_true rfl) (Nat.le_of_ble_eq_true rfl) rfl (Nat.le_of_ble_eq_true rfl) (by omega) (by omega) dL_pass_4 (fun E f2 h9 => ?_) (fun r9 f2 h9 => h9.elim)
  obtain ⟨rfl, rfl⟩ := h9
  refine V_catch X (name := "java/lang/IllegalStateException") [⟨0, 9, 12, 13⟩] ⟨0, 9, 15, 15⟩ [] (htab.trans rfl) (fun z hz => by
    cases List.mem_singleton.mp hz
    exact ⟨by decide, "java/lang/IllegalArgumentException", by decide +kernel, hCF.2 ("java/lang/IllegalStateException", "java/lang/IllegalArgumentException") (List.mem_cons_self)⟩) rfl (by decide) (by decide +kernel) (hCF.1 _ (List.mem_cons_of_mem _ (List.mem_cons_self))) (fun q => ?_)
  show V K f2 0 0 15 _ [.ref q]
  refine V_astore_n X (lv' := [(3, _), (0, _), (1, _), (2, _)]) (by decide) rfl dL_pass_15 ?_
  refine V_iconst X (v := 2) (by decide) dL_pass_16 ?_
  exact V_iret X hr (⟨rfl, rfl⟩) dL_pass_17
