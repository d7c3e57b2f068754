/-! ===== constructors ===== -/
set_option maxHeartbeats 4000000 in
set_option maxRecDepth 100000 in
theorem c_Jx4a65c_init_2 (l : Launch) (G : GG) (f : Wo) (a : Nat) (t : Tg) (ht : t.1 ≠ 99) (ha : f a = some (t, oO 0 [.int 0, .null, .int 0])) : Ct l yJx4a65c_init_da8c8 wsJx4a65c_init_da8c8 4 100 G [.ref a] f (fun v9 f' => v9 = none ∧ f' = w_up f a t (oO 0 [.int 0, .ref (gE G), .int 0])) 0 0 := by
  refine Ct.of (cc := cJx4a65c_init_da8c8) (maxL := 1) (ret := none) (by decide) rfl (Nat.le_of_ble_eq_true rfl) (lv := [(0, _)]) rfl (by simp [Value.category]) ?_
  intro K X hL hG hr hnm
  subst hL; subst hG
  refine V_aload_n X rfl dJx4a65c_init_da8c8_0 ?_
  refine V_callI (kc' := 0) (ks' := 0) X (rest := _) (c_Jxc12de_init_da8c8 _ _ _ _ t ht _ _ _ ha) gJx4a65c_init_da8c8_Jxc12de_init_da8c8 rfl (by decide +kernel) (by decide +kernel) (by decide +kernel) rfl hds2_Jxc12de_init_da8c8 (Nat.le_of_ble_eq_true rfl) (Nat.le_of_ble_eq_true rfl) rfl (Nat.le_of_ble_eq_true rfl) (by omega) (by omega) dJx4a65c_init_da8c8_1 (fun r f1 hq => ?_)
  obtain ⟨rfl, rfl⟩ := hq
  refine V_aload_n X rfl dJx4a65c_init_da8c8_4 ?_
  refine V_empty X (by decide +kernel) dJx4a65c_init_da8c8_5 ?_
  refine V_put X (T := TJx4a65c) (N := 3) (fs' := [.int 0, .ref (gE (kG K)), .int 0]) 1 (w_up_self _ _ _ _) ht rfl hinJx4a65c_init_da8c8_Jx4a65c tyJx4a65c_ok nmJx4a65c (by decide) (by decide +kernel) (fun _ h9 => h9) rfl rfl rfl rfl (by decide) rfl dJx4a65c_init_da8c8_8 ?_
  exact V_vret X hr (⟨rfl, w_up_up _ _ _ _ _ _⟩) dJx4a65c_init_da8c8_11
theorem hinX3_init_X3 : ∀ w ∈ wsX30, w ∈ wsX3_init := by decide +kernel
set_option maxHeartbeats 4000000 in
set_option maxRecDepth 100000 in
theorem c_X3_init (l : Launch) (G : GG) (f : Wo) (a : Nat) (t : Tg) (ht : t.1 ≠ 99) (pt ro : Int32) (ha : f a = some (t, oO 4 [.int 0, .int 0, .int 0, .int 0, .int 0, .null])) : Ct l yX3_init wsX3_init 2 60 G [.ref a, .int pt, .int ro] f (fun v9 f' => v9 = none ∧ f' = w_up f a t (oO 4 [.int ro, .int pt, .int 350, .int 0, .int 0, .null])) 0 0 := by
  refine Ct.of (cc := cX3_init) (maxL := 3) (ret := none) (by decide) rfl (Nat.le_of_ble_eq_true rfl) (lv := [(0, _), (1, _), (2, _)]) rfl (by simp [Value.category]) ?_
  intro K X hL hG hr hnm
  subst hL; subst hG
  refine V_aload_n X rfl dX3_init_0 ?_
  refine V_obj X (by decide +kernel) (by decide +kernel) (by decide +kernel) (Nat.le_of_ble_eq_true rfl) (Nat.le_of_ble_eq_true rfl) dX3_init_1 ?_
  refine V_aload_n X rfl dX3_init_4 ?_
  refine V_iload_n X rfl dX3_init_5 ?_
  refine V_put X (T := TX3) (N := 6) (fs' := [_, _, _, _, _, _]) 1 (ha) (ht) rfl hinX3_init_X3 tyX3_ok nmX3 (by decide) (by decide +kernel) (fun _ h9 => h9) rfl rfl rfl rfl (by first | decide | simp) rfl dX3_init_6 ?_
  refine V_aload_n X rfl dX3_init_9 ?_
  refine V_iload_n X rfl dX3_init_10 ?_
  refine V_putF X (T := TX3) (N := 6) hnm (fs' := [_, _, _, _, _, _]) 0 ((w_up_self _ _ _ _)) (ht) rfl hinX3_init_X3 tyX3_ok nmX3 (by decide) (by decide +kernel) (fun _ h9 => h9) rfl rfl rfl rfl rfl (by first | decide | simp) rfl dX3_init_11 ?_
  refine V_aload_n X rfl dX3_init_14 ?_
  refine V_sipush X (v := 350) (by decide) dX3_init_15 ?_
  refine V_put X (T := TX3) (N := 6) (fs' := [_, _, _, _, _, _]) 2 ((w_up_self _ _ _ _)) (ht) rfl hinX3_init_X3 tyX3_ok nmX3 (by decide) (by decide +kernel) (fun _ h9 => h9) rfl rfl rfl rfl (by first | decide | simp) rfl dX3_init_18 ?_
  rw [w_up_up, w_up_up]
  exact V_vret X hr (⟨rfl, rfl⟩) dX3_init_21
theorem hds2_Jx4a65c_init_da8c8 : yJx4a65c_init_da8c8.cls ≠ "java/lang/invoke/MethodHandle" ∧ yJx4a65c_init_da8c8.cls ≠ "java/lang/invoke/VarHandle" ∧ (parseMethodDescriptor yJx4a65c_init_da8c8.desc).map (fun d => d.parameters.length) = some 0 := by decide +kernel
theorem alz : ∀ j, j < 3 → defaultValue (tyJx4a65c j) = vp_V [.int 0, .null, .int 0] j := fun j hj => by
  have : j = 0 ∨ j = 1 ∨ j = 2 := by omega
  rcases this with rfl | rfl | rfl <;> rfl
theorem hinX2_init_Jx4a65c : ∀ w ∈ wsJx4a65c0, w ∈ wsX2_init := by decide +kernel
theorem hinX2_init_X2 : ∀ w ∈ wsX20, w ∈ wsX2_init := by decide +kernel
set_option maxHeartbeats 4000000 in
set_option maxRecDepth 100000 in
theorem c_X2_init (l : Launch) (G : GG) (f : Wo) (a : Nat) (t tq : Tg) (ht : t.1 ≠ 99) (htq : tq.1 ≠ 99) (pp si : Int32) (ha : f a = some (t, oO 3 [.int 0, .int 0, .null, .int 0, .int 0])) : Ct l yX2_init wsX2_init 5 120 G [.ref a, .int pp, .int si] f (fun v9 f' => ∃ q, v9 = none ∧ f q = none ∧ f' = w_up (w_up (w_up f a t (oO 3 [.int pp, .int si, .null, .int 0, .int 0])) q tq (oO 0 [.int 0, .ref (gE G), .int 0])) a t (oO 3 [.int pp, .int si, .ref q, .int 1, .int 0])) 1 3 := by
  refine Ct.of (cc := cX2_init) (maxL := 3) (ret := none) (by decide) rfl (Nat.le_of_ble_eq_true rfl) (lv := [(0, _), (1, _), (2, _)]) rfl (by simp [Value.category]) ?_
  intro K X hL hG hr hnm
  subst hL; subst hG
  refine V_aload_n X rfl dX2_init_0 ?_
  refine V_obj X (by decide +kernel) (by decide +kernel) (by decide +kernel) (Nat.le_of_ble_eq_true rfl) (Nat.le_of_ble_eq_true rfl) dX2_init_1 ?_
  refine V_aload_n X rfl dX2_init_4 ?_
  refine V_iload_n X rfl dX2_init_5 ?_
  refine V_putF X (T := TX2) (N := 5) hnm (fs' := [_, _, _, _, _]) 0 (ha) (ht) rfl hinX2_init_X2 tyX2_ok nmX2 (by decide) (by decide +kernel) (fun _ h9 => h9) rfl rfl rfl rfl rfl (by first | decide | simp) rfl dX2_init_6 ?_
  refine V_aload_n X rfl dX2_init_9 ?_
  refine V_iload_n X rfl dX2_init_10 ?_
  refine V_putF X (T := TX2) (N := 5) hnm (fs' := [_, _, _, _, _]) 1 ((w_up_self _ _ _ _)) (ht) rfl hinX2_init_X2 tyX2_ok nmX2 (by decide) (by decide +kernel) (fun _ h9 => h9) rfl rfl rfl rfl rfl (by first | decide | simp) rfl dX2_init_11 ?_
  refine V_aload_n X rfl dX2_init_14 ?_
  rw [w_up_up]
  refine V_new X (C := RJx4a65c) (T := TJx4a65c) (N := 3) (ci := 0) (index := 18) (kc' := 0) (ks' := 3 * 0) (ty := tyJx4a65c) (fs := [.int 0, .null, .int 0]) tq rfl hinX2_init_Jx4a65c tyJx4a65c_ok (by decide +kernel) (by decide +kernel) (by decide +kernel) alz (by omega) (by omega) dX2_init_15 (fun q hq => ?_)
  refine V_dup X rfl dX2_init_18 ?_
  refine V_callI (kc' := 0) (ks' := 0) X (rest := _) (c_Jx4a65c_init_2 _ _ _ q tq htq (w_up_self _ _ _ _)) gX2_init_Jx4a65c_init_da8c8 rfl (by decide +kernel) (by decide +kernel) (by decide +kernel) rfl hds2_Jx4a65c_init_da8c8 (Nat.le_of_ble_eq_true rfl) (Nat.le_of_ble_eq_true rfl) rfl (Nat.le_of_ble_eq_true rfl) (by omega) (by omega) dX2_init_19 (fun r f1 h9 => ?_)
  obtain ⟨rfl, rfl⟩ := h9
  rw [w_up_up]
  have hqa : a ≠ q := fun e => by rw [← e, w_up_self] at hq; cases hq
  refine V_putF X (T := TX2) (N := 5) hnm (fs' := [_, _, _, _, _]) 2 (((w_up_ne _ _ _ hqa).trans (w_up_self _ _ _ _))) (ht) rfl hinX2_init_X2 tyX2_ok nmX2 (by decide) (by decide +kernel) (fun _ h9 => h9) rfl rfl rfl rfl rfl (by first | decide | simp) rfl dX2_init_22 ?_
  refine V_aload_n X rfl dX2_init_25 ?_
  refine V_iconst X (v := 1) (by decide) dX2_init_26 ?_
  refine V_put X (T := TX2) (N := 5) (fs' := [_, _, _, _, _]) 3 ((w_up_self _ _ _ _)) (ht) rfl hinX2_init_X2 tyX2_ok nmX2 (by decide) (by decide +kernel) (fun _ h9 => h9) rfl rfl rfl rfl (by first | decide | simp) rfl dX2_init_27 ?_
  rw [w_up_up]
  exact V_vret X hr (⟨q, rfl, by have h9 := hq; unfold w_up at h9; rwa [if_neg (Ne.symm hqa)] at h9, rfl⟩) dX2_init_30
theorem hinX1_init_Jx4a65c : ∀ w ∈ wsJx4a65c0, w ∈ wsX1_init := by decide +kernel
theorem hinX1_init_X1 : ∀ w ∈ wsX10, w ∈ wsX1_init := by decide +kernel
set_option maxHeartbeats 4000000 in
set_option maxRecDepth 100000 in
theorem c_X1_init (l : Launch) (G : GG) (f : Wo) (a : Nat) (t tq : Tg) (ht : t.1 ≠ 99) (htq : tq.1 ≠ 99) (z0 o0 gp dl : Int32) (ha : f a = some (t, oO 2 [.int 0, .int 0, .int 0, .int 0, .null, .int 0, .int 0])) : Ct l yX1_init wsX1_init 5 120 G [.ref a, .int z0, .int o0, .int gp, .int dl] f (fun v9 f' => ∃ q, v9 = none ∧ f q = none ∧ f' = w_up (w_up (w_up f a t (oO 2 [.int z0, .int o0, .int gp, .int dl, .null, .int 0, .int 0])) q tq (oO 0 [.int 0, .ref (gE G), .int 0])) a t (oO 2 [.int z0, .int o0, .int gp, .int dl, .ref q, .int 0, .int (z0 ||| o0)])) 1 3 := by
  refine Ct.of (cc := cX1_init) (maxL := 5) (ret := none) (by decide) rfl (Nat.le_of_ble_eq_true rfl) (lv := [(0, _), (1, _), (2, _), (3, _), (4, _)]) rfl (by simp [Value.category]) ?_
  intro K X hL hG hr hnm
  subst hL; subst hG
  refine V_aload_n X rfl dX1_init_0 ?_
  refine V_obj X (by decide +kernel) (by decide +kernel) (by decide +kernel) (Nat.le_of_ble_eq_true rfl) (Nat.le_of_ble_eq_true rfl) dX1_init_1 ?_
  refine V_aload_n X rfl dX1_init_4 ?_
  refine V_iload_n X rfl dX1_init_5 ?_
  refine V_putF X (T := TX1) (N := 7) hnm (fs' := [_, _, _, _, _, _, _]) 0 (ha) (ht) rfl hinX1_init_X1 tyX1_ok nmX1 (by decide) (by decide +kernel) (fun _ h9 => h9) rfl rfl rfl rfl rfl (by first | decide | simp) rfl dX1_init_6 ?_
  refine V_aload_n X rfl dX1_init_9 ?_
  refine V_iload_n X rfl dX1_init_10 ?_
  refine V_putF X (T := TX1) (N := 7) hnm (fs' := [_, _, _, _, _, _, _]) 1 ((w_up_self _ _ _ _)) (ht) rfl hinX1_init_X1 tyX1_ok nmX1 (by decide) (by decide +kernel) (fun _ h9 => h9) rfl rfl rfl rfl rfl (by first | decide | simp) rfl dX1_init_11 ?_
  refine V_aload_n X rfl dX1_init_14 ?_
  refine V_iload_n X rfl dX1_init_15 ?_
  refine V_putF X (T := TX1) (N := 7) hnm (fs' := [_, _, _, _, _, _, _]) 2 ((w_up_self _ _ _ _)) (ht) rfl hinX1_init_X1 tyX1_ok nmX1 (by decide) (by decide +kernel) (fun _ h9 => h9) rfl rfl rfl rfl rfl (by first | decide | simp) rfl dX1_init_16 ?_
  refine V_aload_n X rfl dX1_init_19 ?_
  refine V_iload X rfl dX1_init_20 ?_
  refine V_putF X (T := TX1) (N := 7) hnm (fs' := [_, _, _, _, _, _, _]) 3 ((w_up_self _ _ _ _)) (ht) rfl hinX1_init_X1 tyX1_ok nmX1 (by decide) (by decide +kernel) (fun _ h9 => h9) rfl rfl rfl rfl rfl (by first | decide | simp) rfl dX1_init_22 ?_
  refine V_aload_n X rfl dX1_init_25 ?_
  rw [w_up_up, w_up_up, w_up_up]
  refine V_new X (C := RJx4a65c) (T := TJx4a65c) (N := 3) (ci := 0) (index := 24) (kc' := 0) (ks' := 3 * 0) (ty := tyJx4a65c) (fs := [.int 0, .null, .int 0]) tq rfl hinX1_init_Jx4a65c tyJx4a65c_ok (by decide +kernel) (by decide +kernel) (by decide +kernel) alz (by omega) (by omega) dX1_init_26 (fun q hq => ?_)
  refine V_dup X rfl dX1_init_29 ?_
  refine V_callI (kc' := 0) (ks' := 0) X (rest := _) (c_Jx4a65c_init_2 _ _ _ q tq htq (w_up_self _ _ _ _)) gX1_init_Jx4a65c_init_da8c8 rfl (by decide +kernel) (by decide +kernel) (by decide +kernel) rfl hds2_Jx4a65c_init_da8c8 (Nat.le_of_ble_eq_true rfl) (Nat.le_of_ble_eq_true rfl) rfl (Nat.le_of_ble_eq_true rfl) (by omega) (by omega) dX1_init_30 (fun r f1 h9 => ?_)
  obtain ⟨rfl, rfl⟩ := h9
  rw [w_up_up]
  have hqa : a ≠ q := fun e => by rw [← e, w_up_self] at hq; cases hq
  refine V_putF X (T := TX1) (N := 7) hnm (fs' := [_, _, _, _, _, _, _]) 4 (((w_up_ne _ _ _ hqa).trans (w_up_self _ _ _ _))) (ht) rfl hinX1_init_X1 tyX1_ok nmX1 (by decide) (by decide +kernel) (fun _ h9 => h9) rfl rfl rfl rfl rfl (by first | decide | simp) rfl dX1_init_33 ?_
  refine V_aload_n X rfl dX1_init_36 ?_
  refine V_iconst X (v := 0) (by decide) dX1_init_37 ?_
  refine V_put X (T := TX1) (N := 7) (fs' := [_, _, _, _, _, _, _]) 5 ((w_up_self _ _ _ _)) (ht) rfl hinX1_init_X1 tyX1_ok nmX1 (by decide) (by decide +kernel) (fun _ h9 => h9) rfl rfl rfl rfl (by first | decide | simp) rfl dX1_init_38 ?_
  refine V_aload_n X rfl dX1_init_41 ?_
  refine V_iload_n X rfl dX1_init_42 ?_
  refine V_iload_n X rfl dX1_init_43 ?_
  refine V_ior X dX1_init_44 ?_
  refine V_put X (T := TX1) (N := 7) (fs' := [_, _, _, _, _, _, _]) 6 ((w_up_self _ _ _ _)) (ht) rfl hinX1_init_X1 tyX1_ok nmX1 (by decide) (by decide +kernel) (fun _ h9 => h9) rfl rfl rfl rfl (by first | decide | simp) rfl dX1_init_45 ?_
  rw [w_up_up, w_up_up]
  exact V_vret X hr (⟨q, rfl, by have h9 := hq; unfold w_up at h9; rwa [if_neg (Ne.symm hqa)] at h9, rfl⟩) dX1_init_48
theorem hinX0_init_Jx4a65c : ∀ w ∈ wsJx4a65c0, w ∈ wsX0_init := by decide +kernel
theorem hinX0_init_X0 : ∀ w ∈ wsX00, w ∈ wsX0_init := by decide +kernel
set_option maxHeartbeats 4000000 in
set_option maxRecDepth 100000 in
theorem c_X0_init (l : Launch) (G : GG) (f : Wo) (a : Nat) (t t1 t2 : Tg) (ht : t.1 ≠ 99) (ht1 : t1.1 ≠ 99) (ht2 : t2.1 ≠ 99) (ha : f a = some (t, oO 1 [.null, .null, .int 0, .int 0, .int 0])) : Ct l yX0_init wsX0_init 5 120 G [.ref a] f (fun v9 f' => ∃ q r, v9 = none ∧ f q = none ∧ f r = none ∧ q ≠ r ∧ f' = w_up (w_up (w_up (w_up f q t1 (oO 0 [.int 0, .ref (gE G), .int 0])) a t (oO 1 [.ref q, .null, .int 0, .int 0, .int 0])) r t2 (oO 0 [.int 0, .ref (gE G), .int 0])) a t (oO 1 [.ref q, .ref r, .int 0, .int 0, .int 0])) 2 6 := by
  refine Ct.of (cc := cX0_init) (maxL := 1) (ret := none) (by decide) rfl (Nat.le_of_ble_eq_true rfl) (lv := [(0, _)]) rfl (by simp [Value.category]) ?_
  intro K X hL hG hr hnm
  subst hL; subst hG
  refine V_aload_n X rfl dX0_init_0 ?_
  refine V_obj X (by decide +kernel) (by decide +kernel) (by decide +kernel) (Nat.le_of_ble_eq_true rfl) (Nat.le_of_ble_eq_true rfl) dX0_init_1 ?_
  refine V_aload_n X rfl dX0_init_4 ?_
  refine V_new X (C := RJx4a65c) (T := TJx4a65c) (N := 3) (ci := 0) (index := 9) (kc' := 1) (ks' := 3 * 1) (ty := tyJx4a65c) (fs := [.int 0, .null, .int 0]) t1 rfl hinX0_init_Jx4a65c tyJx4a65c_ok (by decide +kernel) (by decide +kernel) (by decide +kernel) alz (by omega) (by omega) dX0_init_5 (fun q hq => ?_)
  refine V_dup X rfl dX0_init_8 ?_
  refine V_callI (kc' := 1) (ks' := 3 * 1) X (rest := _) (c_Jx4a65c_init_2 _ _ _ q t1 ht1 (w_up_self _ _ _ _)) gX0_init_Jx4a65c_init_da8c8 rfl (by decide +kernel) (by decide +kernel) (by decide +kernel) rfl hds2_Jx4a65c_init_da8c8 (Nat.le_of_ble_eq_true rfl) (Nat.le_of_ble_eq_true rfl) rfl (Nat.le_of_ble_eq_true rfl) (by omega) (by omega) dX0_init_9 (fun r f1 h9 => ?_)
  obtain ⟨rfl, rfl⟩ := h9
  rw [w_up_up]
  have hqa : a ≠ q := fun e => by rw [← e, ha] at hq; cases hq
  refine V_putF X (T := TX0) (N := 5) hnm (fs' := [_, _, _, _, _]) 0 (((w_up_ne _ _ _ hqa).trans ha)) (ht) rfl hinX0_init_X0 tyX0_ok nmX0 (by decide) (by decide +kernel) (fun _ h9 => h9) rfl rfl rfl rfl rfl (by first | decide | simp) rfl dX0_init_12 ?_
  refine V_aload_n X rfl dX0_init_15 ?_
  refine V_new X (C := RJx4a65c) (T := TJx4a65c) (N := 3) (ci := 0) (index := 9) (kc' := 0) (ks' := 3 * 0) (ty := tyJx4a65c) (fs := [.int 0, .null, .int 0]) t2 rfl hinX0_init_Jx4a65c tyJx4a65c_ok (by decide +kernel) (by decide +kernel) (by decide +kernel) alz (by omega) (by omega) dX0_init_16 (fun r hr9 => ?_)
  refine V_dup X rfl dX0_init_19 ?_
  refine V_callI (kc' := 0) (ks' := 3 * 0) X (rest := _) (c_Jx4a65c_init_2 _ _ _ r t2 ht2 (w_up_self _ _ _ _)) gX0_init_Jx4a65c_init_da8c8 rfl (by decide +kernel) (by decide +kernel) (by decide +kernel) rfl hds2_Jx4a65c_init_da8c8 (Nat.le_of_ble_eq_true rfl) (Nat.le_of_ble_eq_true rfl) rfl (Nat.le_of_ble_eq_true rfl) (by omega) (by omega) dX0_init_20 (fun r f1 h9 => ?_)
  obtain ⟨rfl, rfl⟩ := h9
  rw [w_up_up]
  have hra : a ≠ r := fun e => by rw [← e, w_up_self] at hr9; cases hr9
  have hqr : q ≠ r := fun e => by rw [← e, w_up_ne _ _ _ (Ne.symm hqa), w_up_self] at hr9; cases hr9
  refine V_putF X (T := TX0) (N := 5) hnm (fs' := [_, _, _, _, _]) 1 (((w_up_ne _ _ _ hra).trans (w_up_self _ _ _ _))) (ht) rfl hinX0_init_X0 tyX0_ok nmX0 (by decide) (by decide +kernel) (fun _ h9 => h9) rfl rfl rfl rfl rfl (by first | decide | simp) rfl dX0_init_23 ?_
  exact V_vret X hr (⟨q, r, rfl, hq, by have h9 := hr9; unfold w_up at h9; rwa [if_neg (Ne.symm hra), if_neg (Ne.symm hqr)] at h9, hqr, rfl⟩) dX0_init_26
