/-! ===== findSet ===== -/
theorem hinX0_findSet_X0 : ∀ w ∈ wsX00, w ∈ wsX0_findSet := by decide +kernel
set_option maxHeartbeats 4000000 in
set_option maxRecDepth 100000 in
theorem c_X0_findSet (l : Launch) (G : GG) (f : Wo) (al : Tg → Nat) (fi : Nat → Nat → Int32) (z : CZ) (hR : RC G al fi z f) (hD : DH z) (hc : zC z (13, 4) = 0 ∨ 10 ≤ zC z (13, 4)) : Ct l yX0_findSet wsX0_findSet 27 627 G [.ref (al (14, 0))] f (DP G al z f (zC z (13, 4)) (fwF z 7 fi [] 0 0 0)) (kF (zC z (13, 4))) (sF (zC z (13, 4))) := by
  refine Ct.of (cc := cX0_findSet) (maxL := 1) (ret := (some .boolean)) (by decide) rfl (Nat.le_of_ble_eq_true rfl) (lv := [(0, _)]) rfl (by simp [Value.category]) ?_
  intro K X hL hG hr hnm
  subst hL; subst hG
  have hF : FrC f f := FrC.rf
  refine V_aload_n X rfl dX0_findSet_0 ?_
  refine V_get X (T := TX0) (N := 5) (v := .ref _) 1 (hR.2.1 (14, 0) (dm14)) rfl hinX0_findSet_X0 (by decide) (by decide +kernel) (fun _ h9 => h9) (rfl) dX0_findSet_1 ?_
  refine V_cclr X hR hF (rest := _) (13, 4) (dl13 (by decide)) (Or.inr (by show 3 ≤ 4; omega)) gX0_findSet_Jx4a65c_clear_da8c8 (Nat.le_of_ble_eq_true rfl) (Nat.le_of_ble_eq_true rfl) (Nat.le_of_ble_eq_true rfl) dX0_findSet_4 (fun f hR hF => ?_)
  refine V_aload_n X rfl dX0_findSet_7 ?_
  refine V_iconst X (v := 0) (by decide) dX0_findSet_8 ?_
  refine V_iconst X (v := 0) (by decide) dX0_findSet_9 ?_
  refine V_iconst X (v := 0) (by decide) dX0_findSet_10 ?_
  refine V_callS (kc' := 0) (ks' := 0) X (rest := _) (fw_all _ _ 7 _ al fi z [] (zC z (13, 4)) 0 0 0 hR hD (Nat.le_refl _) (by omega) (by omega) hc (by omega)) gX0_findSet_X0_findWith rfl hds_X0_findWith (Nat.le_of_ble_eq_true rfl) (Nat.le_of_ble_eq_true rfl) rfl (Nat.le_of_ble_eq_true rfl) (by omega) (by omega) dX0_findSet_11 (fun r9 f2 h9 => ?_)
  obtain ⟨c2, q1, q2, q3, rfl, hR2, hF2⟩ := h9
  have hF := hF.trans hF2
  exact V_zret X hr (bI_nar _) (⟨c2, q1, q2, q3, rfl, hR2, hF⟩) dX0_findSet_14
