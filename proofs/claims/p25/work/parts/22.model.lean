set_option maxHeartbeats 4000000 in
set_option maxRecDepth 100000 in
theorem c_X5_has (l : Launch) (G : GG) (f : Wo) (s k : Int32) : Cp l yX5_has wsX5_has 1 44 G [.int s, .int k] f (.int (bI (hsI s k))) := by
  refine Ct.of (cc := cX5_has) (maxL := 2) (ret := (some .boolean)) (by decide) rfl (Nat.le_of_ble_eq_true rfl) (lv := [(0, _), (1, _)]) rfl (by simp [Value.category]) ?_
  intro K X hL hG hr hnm
  subst hL; subst hG
  refine V_iload_n X rfl dX5_has_0 ?_
  refine V_iload_n X rfl dX5_has_1 ?_
  refine V_ishr X dX5_has_2 ?_
  refine V_iconst X (v := 1) (by decide) dX5_has_3 ?_
  refine V_iand X dX5_has_4 ?_
  refine V_if_eq X (tgt := 12) (by decide) dX5_has_5 (fun hc5 => ?_) (fun hc5 => ?_)
  · refine V_iconst X (v := 0) (by decide) dX5_has_12 ?_
    exact V_zret X hr (by decide) (⟨by first | exact bI_t (hs_ne hc5) | exact bI_f (hs_eq hc5), rfl⟩) dX5_has_13
  · refine V_iconst X (v := 1) (by decide) dX5_has_8 ?_
    refine V_goto X (tgt := 13) (by decide) dX5_has_9 ?_
    exact V_zret X hr (by decide) (⟨by first | exact bI_t (hs_ne hc5) | exact bI_f (hs_eq hc5), rfl⟩) dX5_has_13
