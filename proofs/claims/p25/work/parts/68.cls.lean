/-! ===== a player joins a party (raw: the party need not be in its list yet) ===== -/
theorem hinX2_join_X2 : ∀ w ∈ wsX20, w ∈ wsX2_join := by decide +kernel
theorem hinX2_join_X3 : ∀ w ∈ wsX30, w ∈ wsX2_join := by decide +kernel
set_option maxHeartbeats 4000000 in
set_option maxRecDepth 100000 in
theorem c_X2_join (l : Launch) (G : GG) (f : Wo) (a b m : Nat) (ta tb tm : Tg) (hta9 : ta.1 ≠ 99) (htb9 : tb.1 ≠ 99) (htm : tm.1 ≠ 99) (hta : ta.1 ≠ 20) (htb : tb.1 ≠ 20) (pp si st rc ro pt db lv ba : Int32) (la : Value) (ha : f a = some (ta, oO 3 [.int pp, .int si, .ref m, .int st, .int rc])) (hb : f b = some (tb, oO 4 [.int ro, .int pt, .int db, .int lv, .int ba, la])) (cap : Nat) (xs : List Nat) (hA : AL G f m tm cap xs) (hc : cap ≤ 100000) (hE : ∃ x, f (gE G) = some x) (hel : EL f RX3 (b :: xs)) : Ct l yX2_join wsX2_join 12 228 G [.ref a, .ref b] f (fun v9 f' => ∃ f2, v9 = none ∧ AL G f2 m tm (cap2 cap xs.length) (xs ++ [b]) ∧ FrL m f f2 ∧ f' = w_up (w_up f2 a ta (oO 3 [.int pp, .int si, .ref m, .int st, .int (rc + rcI ro)])) b tb (oO 4 [.int ro, .int pt, .int db, .int lv, .int ba, .ref a])) (adC cap xs.length) (adS cap xs.length) := by
  refine Ct.of (cc := cX2_join) (maxL := 2) (ret := none) (by decide) rfl (Nat.le_of_ble_eq_true rfl) (lv := [(0, _), (1, _)]) rfl (by simp [Value.category]) ?_
  intro K X hL hG hr hnm
  subst hL; subst hG
  obtain ⟨us, hu⟩ := hA.hd
  refine V_aload_n X rfl dX2_join_0 ?_
  refine V_get X (T := TX2) (N := 5) 2 (ha) rfl hinX2_join_X2 (by decide) (by decide +kernel) (fun _ h9 => h9) rfl dX2_join_1 ?_
  refine V_aload_n X rfl dX2_join_4 ?_
  refine V_callV (kc' := 0) (ks' := 0) X (rest := _) (c_Jx4a65c_add_9ea2d _ _ _ m tm htm cap xs hA hc hE RX3 (CN_x (k := 0) (by decide)).1 (CN_x (k := 0) (by decide)).2 b hel) hu rfl gX2_join_Jx4a65c_add_9ea2d rfl hdv_Jx4a65c_add_9ea2d (Nat.le_of_ble_eq_true rfl) (Nat.le_of_ble_eq_true rfl) rfl (Nat.le_of_ble_eq_true rfl) (by omega) (by omega) dX2_join_5 (fun r9 f1 h9 => ?_)
  obtain ⟨rfl, hA2, hL⟩ := h9
  have ha2 := hL a _ ha (w_ne hu ha (fun e => by cases e)) (fun e => hta (congrArg Prod.fst e))
  have hb2 := hL b _ hb (w_ne hu hb (fun e => by cases e)) (fun e => htb (congrArg Prod.fst e))
  have hab : b ≠ a := w_ne ha hb (fun e => by cases e)
  refine V_pop X rfl dX2_join_8 ?_
  refine V_aload_n X rfl dX2_join_9 ?_
  refine V_dup X rfl dX2_join_10 ?_
  refine V_get X (T := TX2) (N := 5) 4 (ha2) rfl hinX2_join_X2 (by decide) (by decide +kernel) (fun _ h9 => h9) rfl dX2_join_11 ?_
  refine V_aload_n X rfl dX2_join_14 ?_
  refine V_get X (T := TX3) (N := 6) 0 (hb2) rfl hinX2_join_X3 (by decide) (by decide +kernel) (fun _ h9 => h9) rfl dX2_join_15 ?_
  refine V_callSp X (rest := _) (c_X4_of _ _ _ ro) gX2_join_X4_of rfl hds_X4_of (Nat.le_of_ble_eq_true rfl) (Nat.le_of_ble_eq_true rfl) rfl (Nat.le_of_ble_eq_true rfl) dX2_join_18 ?_
  refine V_iadd X dX2_join_21 ?_
  refine V_put X (T := TX2) (N := 5) (fs' := [_, _, _, _, _]) 4 (ha2) ((by assumption)) rfl hinX2_join_X2 tyX2_ok nmX2 (by decide) (by decide +kernel) (fun _ h9 => h9) rfl rfl rfl rfl (by first | decide | simp) rfl dX2_join_22 ?_
  refine V_aload_n X rfl dX2_join_25 ?_
  refine V_aload_n X rfl dX2_join_26 ?_
  refine V_put X (T := TX3) (N := 6) (fs' := [_, _, _, _, _, _]) 5 (((w_up_ne _ _ _ hab).trans hb2)) ((by assumption)) rfl hinX2_join_X3 tyX3_ok nmX3 (by decide) (by decide +kernel) (fun _ h9 => h9) rfl rfl rfl rfl (by first | decide | simp) rfl dX2_join_27 ?_
  exact V_vret X hr (⟨f1, rfl, hA2, hL, rfl⟩) dX2_join_30
