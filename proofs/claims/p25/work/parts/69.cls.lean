/-! ===== a party joins a match (raw) ===== -/
theorem hinX1_join_X1 : ∀ w ∈ wsX10, w ∈ wsX1_join := by decide +kernel
theorem hinX1_join_X2 : ∀ w ∈ wsX20, w ∈ wsX1_join := by decide +kernel
set_option maxHeartbeats 4000000 in
set_option maxRecDepth 100000 in
theorem c_X1_join (l : Launch) (G : GG) (f : Wo) (a b m : Nat) (ta tb tm : Tg) (htb9 : tb.1 ≠ 99) (htm : tm.1 ≠ 99) (htb : tb.1 ≠ 20) (z0 o0 gp dl sg aw pp si st rc : Int32) (v : Value) (ha : f a = some (ta, oO 2 [.int z0, .int o0, .int gp, .int dl, .ref m, .int sg, .int aw])) (hb : f b = some (tb, oO 3 [.int pp, .int si, v, .int st, .int rc])) (cap : Nat) (xs : List Nat) (hA : AL G f m tm cap xs) (hc : cap ≤ 100000) (hE : ∃ x, f (gE G) = some x) (hel : EL f RX2 (b :: xs)) : Ct l yX1_join wsX1_join 12 228 G [.ref a, .ref b] f (fun v9 f' => ∃ f2, v9 = none ∧ AL G f2 m tm (cap2 cap xs.length) (xs ++ [b]) ∧ FrL m f f2 ∧ f' = w_up f2 b tb (oO 3 [.int pp, .int si, v, .int 2, .int rc])) (adC cap xs.length) (adS cap xs.length) := by
  refine Ct.of (cc := cX1_join) (maxL := 2) (ret := none) (by decide) rfl (Nat.le_of_ble_eq_true rfl) (lv := [(0, _), (1, _)]) rfl (by simp [Value.category]) ?_
  intro K X hL hG hr hnm
  subst hL; subst hG
  obtain ⟨us, hu⟩ := hA.hd
  refine V_aload_n X rfl dX1_join_0 ?_
  refine V_get X (T := TX1) (N := 7) 4 (ha) rfl hinX1_join_X1 (by decide) (by decide +kernel) (fun _ h9 => h9) rfl dX1_join_1 ?_
  refine V_aload_n X rfl dX1_join_4 ?_
  refine V_callV (kc' := 0) (ks' := 0) X (rest := _) (c_Jx4a65c_add_9ea2d _ _ _ m tm htm cap xs hA hc hE RX2 (CN_x (k := 1) (by decide)).1 (CN_x (k := 1) (by decide)).2 b hel) hu rfl gX1_join_Jx4a65c_add_9ea2d rfl hdv_Jx4a65c_add_9ea2d (Nat.le_of_ble_eq_true rfl) (Nat.le_of_ble_eq_true rfl) rfl (Nat.le_of_ble_eq_true rfl) (by omega) (by omega) dX1_join_5 (fun r9 f1 h9 => ?_)
  obtain ⟨rfl, hA2, hL⟩ := h9
  have hb2 := hL b _ hb (w_ne hu hb (fun e => by cases e)) (fun e => htb (congrArg Prod.fst e))
  refine V_pop X rfl dX1_join_8 ?_
  refine V_aload_n X rfl dX1_join_9 ?_
  refine V_iconst X (v := 2) (by decide) dX1_join_10 ?_
  refine V_put X (T := TX2) (N := 5) (fs' := [_, _, _, _, _]) 3 (hb2) ((by assumption)) rfl hinX1_join_X2 tyX2_ok nmX2 (by decide) (by decide +kernel) (fun _ h9 => h9) rfl rfl rfl rfl (by first | decide | simp) rfl dX1_join_11 ?_
  exact V_vret X hr (⟨f1, rfl, hA2, hL, rfl⟩) dX1_join_14
