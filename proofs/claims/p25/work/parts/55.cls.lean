/-! ===== LobbyMaker: leave, fit, matches ===== -/
theorem hinX5_leave_X2 : ∀ w ∈ wsX20, w ∈ wsX5_leave := by decide +kernel
theorem hinX5_leave_X5 : ∀ w ∈ wsX50, w ∈ wsX5_leave := by decide +kernel
set_option maxHeartbeats 4000000 in
set_option maxRecDepth 100000 in
theorem c_X5_leave_t (l : Launch) (G : GG) (f : Wo) (al : Tg → Nat) (fi : Nat → Nat → Int32) (z : CZ) (hR : RC G al fi z f) (p : Nat) (hp : p < zN z 1) (hq : fi 7 p = 1) : Ct l yX5_leave wsX5_leave 11 203 G [.ref (al (15, 0)), .int (nI p)] f (fun v9 f' => v9 = some (.int (fi 18 0 - fi 6 p)) ∧ RC G al (fu fi 7 p 0) (z) f' ∧ FrC f f') 0 0 := by
  refine Ct.of (cc := cX5_leave) (maxL := 3) (ret := (some .int)) (by decide) rfl (Nat.le_of_ble_eq_true rfl) (lv := [(0, _), (1, _)]) rfl (by simp [Value.category]) ?_
  intro K X hL hG hr hnm
  subst hL; subst hG
  have hF : FrC f f := FrC.rf
  refine V_aload_n X rfl dX5_leave_0 ?_
  refine V_iload_n X rfl dX5_leave_1 ?_
  refine V_callVp X (rest := _) (c_X5_queuingParty_t _ _ _ al fi z hR p hp hq) (hR.2.1 (15, 0) (dm15)) rfl gX5_leave_X5_queuingParty rfl hdv_X5_queuingParty (Nat.le_of_ble_eq_true rfl) (Nat.le_of_ble_eq_true rfl) rfl (Nat.le_of_ble_eq_true rfl) dX5_leave_2 ?_
  refine V_astore_n X (lv' := [(2, _), (0, _), (1, _)]) (by decide) rfl dX5_leave_5 ?_
  refine V_aload_n X rfl dX5_leave_6 ?_
  refine V_iconst X (v := 0) (by decide) dX5_leave_7 ?_
  refine V_cput X hR hF (T := TX2) (N := 5) 7 p 3 (dm1 hp) rfl hinX5_leave_X2 tyX2_ok nmX2 (by decide) (by decide +kernel) (fun _ h9 => h9) rfl rfl (Nat.le_of_ble_eq_true rfl) (fst_7 _ _ _ _ _) dX5_leave_8 (fun f hR hF => ?_)
  refine V_aload_n X rfl dX5_leave_11 ?_
  refine V_get X (T := TX5) (N := 5) (v := .int _) 4 (hR.2.1 (15, 0) (dm15)) rfl hinX5_leave_X5 (by decide) (by decide +kernel) (fun _ h9 => h9) (rfl) dX5_leave_12 ?_
  refine V_aload_n X rfl dX5_leave_15 ?_
  refine V_get X (T := TX2) (N := 5) (v := .int _) 1 (hR.2.1 (1, p) (dm1 hp)) rfl hinX5_leave_X2 (by decide) (by decide +kernel) (fun _ h9 => h9) (rfl) dX5_leave_16 ?_
  refine V_isub X dX5_leave_19 ?_
  exact V_iret X hr (⟨rfl, hR, hF⟩) dX5_leave_20
set_option maxHeartbeats 4000000 in
set_option maxRecDepth 100000 in
theorem c_X5_leave_x (l : Launch) (hl : l.stackTraces = false) (G : GG) (f : Wo) (al : Tg → Nat) (fi : Nat → Nat → Int32) (z : CZ) (hR : RC G al fi z f) (i : Int32) (h : i < 0 ∨ nI (zN z 1) ≤ i) : Cx l yX5_leave wsX5_leave 11 203 G [.ref (al (15, 0)), .int i] f (fun _ _ => False) (fun E f' => E = "java/lang/IndexOutOfBoundsException" ∧ f' = f) 1 6 := by
  refine Cx.of (cc := cX5_leave) (maxL := 3) (ret := (some .int)) (by decide) rfl (Nat.le_of_ble_eq_true rfl) (lv := [(0, _), (1, _)]) rfl (by simp [Value.category]) ?_
  intro K X hL hG hr hT
  subst hL; subst hG
  refine V_aload_n X rfl dX5_leave_0 ?_
  refine V_iload_n X rfl dX5_leave_1 ?_
  refine V_callVX (kc' := 0) (ks' := 0) X (rest := _) (c_X5_queuingParty_x _ hl _ _ al fi z hR i h) (hR.2.1 (15, 0) (dm15)) rfl gX5_leave_X5_queuingParty rfl hdv_X5_queuingParty (Nat.le_of_ble_eq_true rfl) (Nat.le_of_ble_eq_true rfl) rfl (Nat.le_of_ble_eq_true rfl) (by omega) (by omega) dX5_leave_2 (fun E f1 hq => ?_) (fun r f1 hq => hq.elim)
  obtain ⟨rfl, rfl⟩ := hq
  exact VX_out X hT ⟨rfl, rfl⟩
set_option maxHeartbeats 4000000 in
set_option maxRecDepth 100000 in
theorem c_X5_leave_s (l : Launch) (hl : l.stackTraces = false) (G : GG) (f : Wo) (al : Tg → Nat) (fi : Nat → Nat → Int32) (z : CZ) (hR : RC G al fi z f) (p : Nat) (hp : p < zN z 1) (hq : fi 7 p ≠ 1) : Cx l yX5_leave wsX5_leave 11 203 G [.ref (al (15, 0)), .int (nI p)] f (fun _ _ => False) (fun E f' => E = "java/lang/IllegalStateException" ∧ f' = f) 1 6 := by
  refine Cx.of (cc := cX5_leave) (maxL := 3) (ret := (some .int)) (by decide) rfl (Nat.le_of_ble_eq_true rfl) (lv := [(0, _), (1, _)]) rfl (by simp [Value.category]) ?_
  intro K X hL hG hr hT
  subst hL; subst hG
  refine V_aload_n X rfl dX5_leave_0 ?_
  refine V_iload_n X rfl dX5_leave_1 ?_
  refine V_callVX (kc' := 0) (ks' := 0) X (rest := _) (c_X5_queuingParty_s _ hl _ _ al fi z hR p hp hq) (hR.2.1 (15, 0) (dm15)) rfl gX5_leave_X5_queuingParty rfl hdv_X5_queuingParty (Nat.le_of_ble_eq_true rfl) (Nat.le_of_ble_eq_true rfl) rfl (Nat.le_of_ble_eq_true rfl) (by omega) (by omega) dX5_leave_2 (fun E f1 hq => ?_) (fun r f1 hq => hq.elim)
  obtain ⟨rfl, rfl⟩ := hq
  exact VX_out X hT ⟨rfl, rfl⟩
theorem hinX5_fit_X5 : ∀ w ∈ wsX50, w ∈ wsX5_fit := by decide +kernel
set_option maxHeartbeats 4000000 in
set_option maxRecDepth 100000 in
theorem c_X5_fit_t (l : Launch) (G : GG) (f : Wo) (al : Tg → Nat) (fi : Nat → Nat → Int32) (z : CZ) (hR : RC G al fi z f) (p q : Nat) (hp : p < zN z 1) (hq : q < zN z 1) (hqp : fi 7 p = 1) (hqq : fi 7 q = 1) : Cp l yX5_fit wsX5_fit 12 226 G [.ref (al (15, 0)), .int (nI p), .int (nI q)] f (.int (bI (ftC fi z (fi 18 0) p q))) := by
  refine Ct.of (cc := cX5_fit) (maxL := 4) (ret := (some .boolean)) (by decide) rfl (Nat.le_of_ble_eq_true rfl) (lv := [(0, _), (1, _), (2, _)]) rfl (by simp [Value.category]) ?_
  intro K X hL hG hr hnm
  subst hL; subst hG
  refine V_aload_n X rfl dX5_fit_0 ?_
  refine V_iload_n X rfl dX5_fit_1 ?_
  refine V_callVp X (rest := _) (c_X5_existingParty_t _ _ _ al fi z hR q hq) (hR.2.1 (15, 0) (dm15)) rfl gX5_fit_X5_existingParty rfl hdv_X5_existingParty (Nat.le_of_ble_eq_true rfl) (Nat.le_of_ble_eq_true rfl) rfl (Nat.le_of_ble_eq_true rfl) dX5_fit_2 ?_
  refine V_pop X rfl dX5_fit_5 ?_
  refine V_aload_n X rfl dX5_fit_6 ?_
  refine V_iload_n X rfl dX5_fit_7 ?_
  refine V_callVp X (rest := _) (c_X5_queuingParty_t _ _ _ al fi z hR p hp hqp) (hR.2.1 (15, 0) (dm15)) rfl gX5_fit_X5_queuingParty rfl hdv_X5_queuingParty (Nat.le_of_ble_eq_true rfl) (Nat.le_of_ble_eq_true rfl) rfl (Nat.le_of_ble_eq_true rfl) dX5_fit_8 ?_
  refine V_astore_n X (lv' := [(3, _), (0, _), (1, _), (2, _)]) (by decide) rfl dX5_fit_11 ?_
  refine V_aload_n X rfl dX5_fit_12 ?_
  refine V_aload_n X rfl dX5_fit_13 ?_
  refine V_get X (T := TX5) (N := 5) (v := .int _) 4 (hR.2.1 (15, 0) (dm15)) rfl hinX5_fit_X5 (by decide) (by decide +kernel) (fun _ h9 => h9) (rfl) dX5_fit_14 ?_
  refine V_aload_n X rfl dX5_fit_17 ?_
  refine V_iload_n X rfl dX5_fit_18 ?_
  refine V_callVp X (rest := _) (c_X5_queuingParty_t _ _ _ al fi z hR q hq hqq) (hR.2.1 (15, 0) (dm15)) rfl gX5_fit_X5_queuingParty rfl hdv_X5_queuingParty (Nat.le_of_ble_eq_true rfl) (Nat.le_of_ble_eq_true rfl) rfl (Nat.le_of_ble_eq_true rfl) dX5_fit_19 ?_
  refine V_callVp X (rest := _) (c_X2_fitsAt _ _ _ al fi z hR p q hp hq _) (hR.2.1 (1, p) (dm1 hp)) rfl gX5_fit_X2_fitsAt rfl hdv_X2_fitsAt (Nat.le_of_ble_eq_true rfl) (Nat.le_of_ble_eq_true rfl) rfl (Nat.le_of_ble_eq_true rfl) dX5_fit_22 ?_
  exact V_zret X hr (bI_nar _) (⟨rfl, rfl⟩) dX5_fit_25
set_option maxHeartbeats 4000000 in
set_option maxRecDepth 100000 in
theorem c_X5_fit_x2 (l : Launch) (hl : l.stackTraces = false) (G : GG) (f : Wo) (al : Tg → Nat) (fi : Nat → Nat → Int32) (z : CZ) (hR : RC G al fi z f) (i j : Int32) (h : j < 0 ∨ nI (zN z 1) ≤ j) : Cx l yX5_fit wsX5_fit 12 226 G [.ref (al (15, 0)), .int i, .int j] f (fun _ _ => False) (fun E f' => E = "java/lang/IndexOutOfBoundsException" ∧ f' = f) 1 6 := by
  refine Cx.of (cc := cX5_fit) (maxL := 4) (ret := (some .boolean)) (by decide) rfl (Nat.le_of_ble_eq_true rfl) (lv := [(0, _), (1, _), (2, _)]) rfl (by simp [Value.category]) ?_
  intro K X hL hG hr hT
  subst hL; subst hG
  refine V_aload_n X rfl dX5_fit_0 ?_
  refine V_iload_n X rfl dX5_fit_1 ?_
  refine V_callVX (kc' := 0) (ks' := 0) X (rest := _) (c_X5_existingParty_x _ hl _ _ al fi z hR j h) (hR.2.1 (15, 0) (dm15)) rfl gX5_fit_X5_existingParty rfl hdv_X5_existingParty (Nat.le_of_ble_eq_true rfl) (Nat.le_of_ble_eq_true rfl) rfl (Nat.le_of_ble_eq_true rfl) (by omega) (by omega) dX5_fit_2 (fun E f1 hq => ?_) (fun r f1 hq => hq.elim)
  obtain ⟨rfl, rfl⟩ := hq
  exact VX_out X hT ⟨rfl, rfl⟩
set_option maxHeartbeats 4000000 in
set_option maxRecDepth 100000 in
theorem c_X5_fit_x1 (l : Launch) (hl : l.stackTraces = false) (G : GG) (f : Wo) (al : Tg → Nat) (fi : Nat → Nat → Int32) (z : CZ) (hR : RC G al fi z f) (i : Int32) (q : Nat) (hq : q < zN z 1) (h : i < 0 ∨ nI (zN z 1) ≤ i) : Cx l yX5_fit wsX5_fit 12 226 G [.ref (al (15, 0)), .int i, .int (nI q)] f (fun _ _ => False) (fun E f' => E = "java/lang/IndexOutOfBoundsException" ∧ f' = f) 1 6 := by
  refine Cx.of (cc := cX5_fit) (maxL := 4) (ret := (some .boolean)) (by decide) rfl (Nat.le_of_ble_eq_true rfl) (lv := [(0, _), (1, _), (2, _)]) rfl (by simp [Value.category]) ?_
  intro K X hL hG hr hT
  subst hL; subst hG
  refine V_aload_n X rfl dX5_fit_0 ?_
  refine V_iload_n X rfl dX5_fit_1 ?_
  refine V_callVp X (rest := _) (c_X5_existingParty_t _ _ _ al fi z hR q hq) (hR.2.1 (15, 0) (dm15)) rfl gX5_fit_X5_existingParty rfl hdv_X5_existingParty (Nat.le_of_ble_eq_true rfl) (Nat.le_of_ble_eq_true rfl) rfl (Nat.le_of_ble_eq_true rfl) dX5_fit_2 ?_
  refine V_pop X rfl dX5_fit_5 ?_
  refine V_aload_n X rfl dX5_fit_6 ?_
  refine V_iload_n X rfl dX5_fit_7 ?_
  refine V_callVX (kc' := 0) (ks' := 0) X (rest := _) (c_X5_queuingParty_x _ hl _ _ al fi z hR i h) (hR.2.1 (15, 0) (dm15)) rfl gX5_fit_X5_queuingParty rfl hdv_X5_queuingParty (Nat.le_of_ble_eq_true rfl) (Nat.le_of_ble_eq_true rfl) rfl (Nat.le_of_ble_eq_true rfl) (by omega) (by omega) dX5_fit_8 (fun E f1 hq => ?_) (fun r f1 hq => hq.elim)
  obtain ⟨rfl, rfl⟩ := hq
  exact VX_out X hT ⟨rfl, rfl⟩
set_option maxHeartbeats 4000000 in
set_option maxRecDepth 100000 in
theorem c_X5_fit_s1 (l : Launch) (hl : l.stackTraces = false) (G : GG) (f : Wo) (al : Tg → Nat) (fi : Nat → Nat → Int32) (z : CZ) (hR : RC G al fi z f) (p q : Nat) (hp : p < zN z 1) (hq : q < zN z 1) (hqp : fi 7 p ≠ 1) : Cx l yX5_fit wsX5_fit 12 226 G [.ref (al (15, 0)), .int (nI p), .int (nI q)] f (fun _ _ => False) (fun E f' => E = "java/lang/IllegalStateException" ∧ f' = f) 1 6 := by
  refine Cx.of (cc := cX5_fit) (maxL := 4) (ret := (some .boolean)) (by decide) rfl (Nat.le_of_ble_eq_true rfl) (lv := [(0, _), (1, _), (2, _)]) rfl (by simp [Value.category]) ?_
  intro K X hL hG hr hT
  subst hL; subst hG
  refine V_aload_n X rfl dX5_fit_0 ?_
  refine V_iload_n X rfl dX5_fit_1 ?_
  refine V_callVp X (rest := _) (c_X5_existingParty_t _ _ _ al fi z hR q hq) (hR.2.1 (15, 0) (dm15)) rfl gX5_fit_X5_existingParty rfl hdv_X5_existingParty (Nat.le_of_ble_eq_true rfl) (Nat.le_of_ble_eq_true rfl) rfl (Nat.le_of_ble_eq_true rfl) dX5_fit_2 ?_
  refine V_pop X rfl dX5_fit_5 ?_
  refine V_aload_n X rfl dX5_fit_6 ?_
  refine V_iload_n X rfl dX5_fit_7 ?_
  refine V_callVX (kc' := 0) (ks' := 0) X (rest := _) (c_X5_queuingParty_s _ hl _ _ al fi z hR p hp hqp) (hR.2.1 (15, 0) (dm15)) rfl gX5_fit_X5_queuingParty rfl hdv_X5_queuingParty (Nat.le_of_ble_eq_true rfl) (Nat.le_of_ble_eq_true rfl) rfl (Nat.le_of_ble_eq_true rfl) (by omega) (by omega) dX5_fit_8 (fun E f1 hq => ?_) (fun r f1 hq => hq.elim)
  obtain ⟨rfl, rfl⟩ := hq
  exact VX_out X hT ⟨rfl, rfl⟩
set_option maxHeartbeats 4000000 in
set_option maxRecDepth 100000 in
theorem c_X5_fit_s2 (l : Launch) (hl : l.stackTraces = false) (G : GG) (f : Wo) (al : Tg → Nat) (fi : Nat → Nat → Int32) (z : CZ) (hR : RC G al fi z f) (p q : Nat) (hp : p < zN z 1) (hq : q < zN z 1) (hqp : fi 7 p = 1) (hqq : fi 7 q ≠ 1) : Cx l yX5_fit wsX5_fit 12 226 G [.ref (al (15, 0)), .int (nI p), .int (nI q)] f (fun _ _ => False) (fun E f' => E = "java/lang/IllegalStateException" ∧ f' = f) 1 6 := by
  refine Cx.of (cc := cX5_fit) (maxL := 4) (ret := (some .boolean)) (by decide) rfl (Nat.le_of_ble_eq_true rfl) (lv := [(0, _), (1, _), (2, _)]) rfl (by simp [Value.category]) ?_
  intro K X hL hG hr hT
  subst hL; subst hG
  refine V_aload_n X rfl dX5_fit_0 ?_
  refine V_iload_n X rfl dX5_fit_1 ?_
  refine V_callVp X (rest := _) (c_X5_existingParty_t _ _ _ al fi z hR q hq) (hR.2.1 (15, 0) (dm15)) rfl gX5_fit_X5_existingParty rfl hdv_X5_existingParty (Nat.le_of_ble_eq_true rfl) (Nat.le_of_ble_eq_true rfl) rfl (Nat.le_of_ble_eq_true rfl) dX5_fit_2 ?_
  refine V_pop X rfl dX5_fit_5 ?_
  refine V_aload_n X rfl dX5_fit_6 ?_
  refine V_iload_n X rfl dX5_fit_7 ?_
  refine V_callVp X (rest := _) (c_X5_queuingParty_t _ _ _ al fi z hR p hp hqp) (hR.2.1 (15, 0) (dm15)) rfl gX5_fit_X5_queuingParty rfl hdv_X5_queuingParty (Nat.le_of_ble_eq_true rfl) (Nat.le_of_ble_eq_true rfl) rfl (Nat.le_of_ble_eq_true rfl) dX5_fit_8 ?_
  refine V_astore_n X (lv' := [(3, _), (0, _), (1, _), (2, _)]) (by decide) rfl dX5_fit_11 ?_
  refine V_aload_n X rfl dX5_fit_12 ?_
  refine V_aload_n X rfl dX5_fit_13 ?_
  refine V_get X (T := TX5) (N := 5) (v := .int _) 4 (hR.2.1 (15, 0) (dm15)) rfl hinX5_fit_X5 (by decide) (by decide +kernel) (fun _ h9 => h9) (rfl) dX5_fit_14 ?_
  refine V_aload_n X rfl dX5_fit_17 ?_
  refine V_iload_n X rfl dX5_fit_18 ?_
  refine V_callVX (kc' := 0) (ks' := 0) X (rest := _) (c_X5_queuingParty_s _ hl _ _ al fi z hR q hq hqq) (hR.2.1 (15, 0) (dm15)) rfl gX5_fit_X5_queuingParty rfl hdv_X5_queuingParty (Nat.le_of_ble_eq_true rfl) (Nat.le_of_ble_eq_true rfl) rfl (Nat.le_of_ble_eq_true rfl) (by omega) (by omega) dX5_fit_19 (fun E f1 hq => ?_) (fun r f1 hq => hq.elim)
  obtain ⟨rfl, rfl⟩ := hq
  exact VX_out X hT ⟨rfl, rfl⟩
set_option maxHeartbeats 4000000 in
set_option maxRecDepth 100000 in
theorem c_X5_checkTeam_t (l : Launch) (G : GG) (f : Wo) (x : Int32) (h : x = 0 ∨ x = 1) : Ct l yX5_checkTeam wsX5_checkTeam 6 96 G [.int x] f (fun v9 f' => v9 = none ∧ f' = f) 0 0 := by
  refine Ct.of (cc := cX5_checkTeam) (maxL := 1) (ret := none) (by decide) rfl (Nat.le_of_ble_eq_true rfl) (lv := [(0, _)]) rfl (by simp [Value.category]) ?_
  intro K X hL hG hr hnm
  subst hL; subst hG
  refine V_iload_n X rfl dX5_checkTeam_0 ?_
  refine V_if_eq X (tgt := 19) (by decide) dX5_checkTeam_1 (fun hc1 => ?_) (fun hc1 => ?_)
  · exact V_vret X hr (⟨rfl, rfl⟩) dX5_checkTeam_19
  · refine V_iload_n X rfl dX5_checkTeam_4 ?_
    refine V_iconst X (v := 1) (by decide) dX5_checkTeam_5 ?_
    refine V_icmp_eq X (tgt := 19) (by decide) dX5_checkTeam_6 (fun hc6 => ?_) (fun hc6 => ?_)
    · exact V_vret X hr (⟨rfl, rfl⟩) dX5_checkTeam_19
    · exact absurd h (fun q => q.elim hc1 hc6)
set_option maxHeartbeats 4000000 in
set_option maxRecDepth 100000 in
theorem c_X5_checkTeam_x (l : Launch) (hl : l.stackTraces = false) (G : GG) (f : Wo) (x : Int32) (h : ¬ (x = 0 ∨ x = 1)) : Cx l yX5_checkTeam wsX5_checkTeam 6 96 G [.int x] f (fun _ _ => False) (fun E f' => E = "java/lang/IllegalArgumentException" ∧ f' = f) 1 6 := by
  refine Cx.of (cc := cX5_checkTeam) (maxL := 1) (ret := none) (by decide) rfl (Nat.le_of_ble_eq_true rfl) (lv := [(0, _)]) rfl (by simp [Value.category]) ?_
  intro K X hL hG hr hT
  subst hL; subst hG
  refine V_iload_n X rfl dX5_checkTeam_0 ?_
  refine V_if_eq X (tgt := 19) (by decide) dX5_checkTeam_1 (fun hc1 => absurd hc1 (fun q => h (Or.inl q))) (fun hc1 => ?_)
  refine V_iload_n X rfl dX5_checkTeam_4 ?_
  refine V_iconst X (v := 1) (by decide) dX5_checkTeam_5 ?_
  refine V_icmp_eq X (tgt := 19) (by decide) dX5_checkTeam_6 (fun hc6 => absurd hc6 (fun q => h (Or.inr q))) (fun hc6 => ?_)
  exact V_throwS X hl hT "java/lang/IllegalArgumentException" "no such team" 33 216 37 ⟨rfl, rfl⟩ (by decide +kernel) (by decide +kernel) (by decide +kernel) (by decide) (by decide +kernel) xg_ia xo_ia dX5_checkTeam_9 dX5_checkTeam_12 dX5_checkTeam_13 dX5_checkTeam_15 dX5_checkTeam_18 (Nat.le_of_ble_eq_true rfl) (Nat.le_of_ble_eq_true rfl) (by omega) (by omega)
theorem hinX5_team_X1 : ∀ w ∈ wsX10, w ∈ wsX5_team := by decide +kernel
set_option maxHeartbeats 4000000 in
set_option maxRecDepth 100000 in
theorem c_X5_team_t (l : Launch) (G : GG) (f : Wo) (al : Tg → Nat) (fi : Nat → Nat → Int32) (z : CZ) (hR : RC G al fi z f) (m : Nat) (hm : m < zN z 2) (x : Int32) (hx : x = 0 ∨ x = 1) : Cp l yX5_team wsX5_team 10 181 G [.ref (al (15, 0)), .int (nI m), .int x] f (.int (if x = 0 then fi 9 m else fi 10 m)) := by
  refine Ct.of (cc := cX5_team) (maxL := 4) (ret := (some .int)) (by decide) rfl (Nat.le_of_ble_eq_true rfl) (lv := [(0, _), (1, _), (2, _)]) rfl (by simp [Value.category]) ?_
  intro K X hL hG hr hnm
  subst hL; subst hG
  refine V_aload_n X rfl dX5_team_0 ?_
  refine V_iload_n X rfl dX5_team_1 ?_
  refine V_callVp X (rest := _) (c_X5_existingMatch_t _ _ _ al fi z hR m hm) (hR.2.1 (15, 0) (dm15)) rfl gX5_team_X5_existingMatch rfl hdv_X5_existingMatch (Nat.le_of_ble_eq_true rfl) (Nat.le_of_ble_eq_true rfl) rfl (Nat.le_of_ble_eq_true rfl) dX5_team_2 ?_
  refine V_astore_n X (lv' := [(3, _), (0, _), (1, _), (2, _)]) (by decide) rfl dX5_team_5 ?_
  refine V_iload_n X rfl dX5_team_6 ?_
  refine V_callS (kc' := 0) (ks' := 0) X (rest := _) (c_X5_checkTeam_t _ _ _ x hx) gX5_team_X5_checkTeam rfl hds_X5_checkTeam (Nat.le_of_ble_eq_true rfl) (Nat.le_of_ble_eq_true rfl) rfl (Nat.le_of_ble_eq_true rfl) (by omega) (by omega) dX5_team_7 (fun r f1 hq => ?_)
  obtain ⟨rfl, rfl⟩ := hq
  refine V_iload_n X rfl dX5_team_10 ?_
  refine V_if_ne X (tgt := 21) (by decide) dX5_team_11 (fun hc11 => ?_) (fun hc11 => ?_)
  · refine V_aload_n X rfl dX5_team_21 ?_
    refine V_get X (T := TX1) (N := 7) (v := .int _) 1 (hR.2.1 (2, m) (dm2 hm)) rfl hinX5_team_X1 (by decide) (by decide +kernel) (fun _ h9 => h9) (rfl) dX5_team_22 ?_
    exact V_iret X hr (⟨congrArg (fun v => some (Value.int v)) (if_neg hc11).symm, rfl⟩) dX5_team_25
  · refine V_aload_n X rfl dX5_team_14 ?_
    refine V_get X (T := TX1) (N := 7) (v := .int _) 0 (hR.2.1 (2, m) (dm2 hm)) rfl hinX5_team_X1 (by decide) (by decide +kernel) (fun _ h9 => h9) (rfl) dX5_team_15 ?_
    refine V_goto X (tgt := 25) (by decide) dX5_team_18 ?_
    exact V_iret X hr (⟨congrArg (fun v => some (Value.int v)) (if_pos hc11).symm, rfl⟩) dX5_team_25
set_option maxHeartbeats 4000000 in
set_option maxRecDepth 100000 in
theorem c_X5_team_x (l : Launch) (hl : l.stackTraces = false) (G : GG) (f : Wo) (al : Tg → Nat) (fi : Nat → Nat → Int32) (z : CZ) (hR : RC G al fi z f) (i x : Int32) (h : i < 0 ∨ nI (zN z 2) ≤ i) : Cx l yX5_team wsX5_team 10 181 G [.ref (al (15, 0)), .int i, .int x] f (fun _ _ => False) (fun E f' => E = "java/lang/IndexOutOfBoundsException" ∧ f' = f) 1 6 := by
  refine Cx.of (cc := cX5_team) (maxL := 4) (ret := (some .int)) (by decide) rfl (Nat.le_of_ble_eq_true rfl) (lv := [(0, _), (1, _), (2, _)]) rfl (by simp [Value.category]) ?_
  intro K X hL hG hr hT
  subst hL; subst hG
  refine V_aload_n X rfl dX5_team_0 ?_
  refine V_iload_n X rfl dX5_team_1 ?_
  refine V_callVX (kc' := 0) (ks' := 0) X (rest := _) (c_X5_existingMatch_x _ hl _ _ al fi z hR i h) (hR.2.1 (15, 0) (dm15)) rfl gX5_team_X5_existingMatch rfl hdv_X5_existingMatch (Nat.le_of_ble_eq_true rfl) (Nat.le_of_ble_eq_true rfl) rfl (Nat.le_of_ble_eq_true rfl) (by omega) (by omega) dX5_team_2 (fun E f1 hq => ?_) (fun r f1 hq => hq.elim)
  obtain ⟨rfl, rfl⟩ := hq
  exact VX_out X hT ⟨rfl, rfl⟩
set_option maxHeartbeats 4000000 in
set_option maxRecDepth 100000 in
theorem c_X5_team_a (l : Launch) (hl : l.stackTraces = false) (G : GG) (f : Wo) (al : Tg → Nat) (fi : Nat → Nat → Int32) (z : CZ) (hR : RC G al fi z f) (m : Nat) (hm : m < zN z 2) (x : Int32) (hx : ¬ (x = 0 ∨ x = 1)) : Cx l yX5_team wsX5_team 10 181 G [.ref (al (15, 0)), .int (nI m), .int x] f (fun _ _ => False) (fun E f' => E = "java/lang/IllegalArgumentException" ∧ f' = f) 1 6 := by
  refine Cx.of (cc := cX5_team) (maxL := 4) (ret := (some .int)) (by decide) rfl (Nat.le_of_ble_eq_true rfl) (lv := [(0, _), (1, _), (2, _)]) rfl (by simp [Value.category]) ?_
  intro K X hL hG hr hT
  subst hL; subst hG
  refine V_aload_n X rfl dX5_team_0 ?_
  refine V_iload_n X rfl dX5_team_1 ?_
  refine V_callVp X (rest := _) (c_X5_existingMatch_t _ _ _ al fi z hR m hm) (hR.2.1 (15, 0) (dm15)) rfl gX5_team_X5_existingMatch rfl hdv_X5_existingMatch (Nat.le_of_ble_eq_true rfl) (Nat.le_of_ble_eq_true rfl) rfl (Nat.le_of_ble_eq_true rfl) dX5_team_2 ?_
  refine V_astore_n X (lv' := [(3, _), (0, _), (1, _), (2, _)]) (by decide) rfl dX5_team_5 ?_
  refine V_iload_n X rfl dX5_team_6 ?_
  refine V_callSX (kc' := 0) (ks' := 0) X (rest := _) (c_X5_checkTeam_x _ hl _ _ x hx) gX5_team_X5_checkTeam rfl hds_X5_checkTeam (Nat.le_of_ble_eq_true rfl) (Nat.le_of_ble_eq_true rfl) rfl (Nat.le_of_ble_eq_true rfl) (by omega) (by omega) dX5_team_7 (fun E f1 hq => ?_) (fun r f1 hq => hq.elim)
  obtain ⟨rfl, rfl⟩ := hq
  exact VX_out X hT ⟨rfl, rfl⟩
def awC (fi : Nat → Nat → Int32) (m : Nat) (pl : Int32) : Bool := decide (fi 13 m = 0) && hsI (fi 14 m) pl
set_option maxHeartbeats 4000000 in
set_option maxRecDepth 100000 in
theorem c_X5_matchThatAwaits_t (l : Launch) (G : GG) (f : Wo) (al : Tg → Nat) (fi : Nat → Nat → Int32) (z : CZ) (hR : RC G al fi z f) (m k : Nat) (hm : m < zN z 2) (hk : k < zN z 0) (ha : awC fi m (nI k) = true) : Cp l yX5_matchThatAwaits wsX5_matchThatAwaits 10 181 G [.ref (al (15, 0)), .int (nI m), .int (nI k)] f (.ref (al (2, m))) := by
  refine Ct.of (cc := cX5_matchThatAwaits) (maxL := 4) (ret := (some (.object "LobbyMaker$Match"))) (by decide) rfl (Nat.le_of_ble_eq_true rfl) (lv := [(0, _), (1, _), (2, _)]) rfl (by simp [Value.category]) ?_
  intro K X hL hG hr hnm
  subst hL; subst hG
  refine V_aload_n X rfl dX5_matchThatAwaits_0 ?_
  refine V_iload_n X rfl dX5_matchThatAwaits_1 ?_
  refine V_callVp X (rest := _) (c_X5_existingMatch_t _ _ _ al fi z hR m hm) (hR.2.1 (15, 0) (dm15)) rfl gX5_matchThatAwaits_X5_existingMatch rfl hdv_X5_existingMatch (Nat.le_of_ble_eq_true rfl) (Nat.le_of_ble_eq_true rfl) rfl (Nat.le_of_ble_eq_true rfl) dX5_matchThatAwaits_2 ?_
  refine V_astore_n X (lv' := [(3, _), (0, _), (1, _), (2, _)]) (by decide) rfl dX5_matchThatAwaits_5 ?_
  refine V_aload_n X rfl dX5_matchThatAwaits_6 ?_
  refine V_iload_n X rfl dX5_matchThatAwaits_7 ?_
  refine V_callVp X (rest := _) (c_X5_existingPlayer_t _ _ _ al fi z hR k hk) (hR.2.1 (15, 0) (dm15)) rfl gX5_matchThatAwaits_X5_existingPlayer rfl hdv_X5_existingPlayer (Nat.le_of_ble_eq_true rfl) (Nat.le_of_ble_eq_true rfl) rfl (Nat.le_of_ble_eq_true rfl) dX5_matchThatAwaits_8 ?_
  refine V_pop X rfl dX5_matchThatAwaits_11 ?_
  refine V_aload_n X rfl dX5_matchThatAwaits_12 ?_
  refine V_iload_n X rfl dX5_matchThatAwaits_13 ?_
  refine V_callVp X (rest := _) (c_X1_awaits _ _ _ al fi z hR m hm (nI k)) (hR.2.1 (2, m) (dm2 hm)) rfl gX5_matchThatAwaits_X1_awaits rfl hdv_X1_awaits (Nat.le_of_ble_eq_true rfl) (Nat.le_of_ble_eq_true rfl) rfl (Nat.le_of_ble_eq_true rfl) dX5_matchThatAwaits_14 ?_
  refine V_if_ne X (tgt := 30) (by decide) dX5_matchThatAwaits_17 (fun hc17 => ?_) (fun hc17 => absurd hc17 (fun q => absurd (show awC fi m (nI k) = false from bI_eq0 q) (by rw [ha]; decide)))
  refine V_aload_n X rfl dX5_matchThatAwaits_30 ?_
  exact V_aret X hr (Or.inl ⟨_, rfl⟩) (⟨rfl, rfl⟩) dX5_matchThatAwaits_31
set_option maxHeartbeats 4000000 in
set_option maxRecDepth 100000 in
theorem c_X5_matchThatAwaits_x1 (l : Launch) (hl : l.stackTraces = false) (G : GG) (f : Wo) (al : Tg → Nat) (fi : Nat → Nat → Int32) (z : CZ) (hR : RC G al fi z f) (i j : Int32) (h : i < 0 ∨ nI (zN z 2) ≤ i) : Cx l yX5_matchThatAwaits wsX5_matchThatAwaits 10 181 G [.ref (al (15, 0)), .int i, .int j] f (fun _ _ => False) (fun E f' => E = "java/lang/IndexOutOfBoundsException" ∧ f' = f) 1 6 := by
  refine Cx.of (cc := cX5_matchThatAwaits) (maxL := 4) (ret := (some (.object "LobbyMaker$Match"))) (by decide) rfl (Nat.le_of_ble_eq_true rfl) (lv := [(0, _), (1, _), (2, _)]) rfl (by simp [Value.category]) ?_
  intro K X hL hG hr hT
  subst hL; subst hG
  refine V_aload_n X rfl dX5_matchThatAwaits_0 ?_
  refine V_iload_n X rfl dX5_matchThatAwaits_1 ?_
  refine V_callVX (kc' := 0) (ks' := 0) X (rest := _) (c_X5_existingMatch_x _ hl _ _ al fi z hR i h) (hR.2.1 (15, 0) (dm15)) rfl gX5_matchThatAwaits_X5_existingMatch rfl hdv_X5_existingMatch (Nat.le_of_ble_eq_true rfl) (Nat.le_of_ble_eq_true rfl) rfl (Nat.le_of_ble_eq_true rfl) (by omega) (by omega) dX5_matchThatAwaits_2 (fun E f1 hq => ?_) (fun r f1 hq => hq.elim)
  obtain ⟨rfl, rfl⟩ := hq
  exact VX_out X hT ⟨rfl, rfl⟩
set_option maxHeartbeats 4000000 in
set_option maxRecDepth 100000 in
theorem c_X5_matchThatAwaits_x2 (l : Launch) (hl : l.stackTraces = false) (G : GG) (f : Wo) (al : Tg → Nat) (fi : Nat → Nat → Int32) (z : CZ) (hR : RC G al fi z f) (m : Nat) (hm : m < zN z 2) (j : Int32) (h : j < 0 ∨ nI (zN z 0) ≤ j) : Cx l yX5_matchThatAwaits wsX5_matchThatAwaits 10 181 G [.ref (al (15, 0)), .int (nI m), .int j] f (fun _ _ => False) (fun E f' => E = "java/lang/IndexOutOfBoundsException" ∧ f' = f) 1 6 := by
  refine Cx.of (cc := cX5_matchThatAwaits) (maxL := 4) (ret := (some (.object "LobbyMaker$Match"))) (by decide) rfl (Nat.le_of_ble_eq_true rfl) (lv := [(0, _), (1, _), (2, _)]) rfl (by simp [Value.category]) ?_
  intro K X hL hG hr hT
  subst hL; subst hG
  refine V_aload_n X rfl dX5_matchThatAwaits_0 ?_
  refine V_iload_n X rfl dX5_matchThatAwaits_1 ?_
  refine V_callVp X (rest := _) (c_X5_existingMatch_t _ _ _ al fi z hR m hm) (hR.2.1 (15, 0) (dm15)) rfl gX5_matchThatAwaits_X5_existingMatch rfl hdv_X5_existingMatch (Nat.le_of_ble_eq_true rfl) (Nat.le_of_ble_eq_true rfl) rfl (Nat.le_of_ble_eq_true rfl) dX5_matchThatAwaits_2 ?_
  refine V_astore_n X (lv' := [(3, _), (0, _), (1, _), (2, _)]) (by decide) rfl dX5_matchThatAwaits_5 ?_
  refine V_aload_n X rfl dX5_matchThatAwaits_6 ?_
  refine V_iload_n X rfl dX5_matchThatAwaits_7 ?_
  refine V_callVX (kc' := 0) (ks' := 0) X (rest := _) (c_X5_existingPlayer_x _ hl _ _ al fi z hR j h) (hR.2.1 (15, 0) (dm15)) rfl gX5_matchThatAwaits_X5_existingPlayer rfl hdv_X5_existingPlayer (Nat.le_of_ble_eq_true rfl) (Nat.le_of_ble_eq_true rfl) rfl (Nat.le_of_ble_eq_true rfl) (by omega) (by omega) dX5_matchThatAwaits_8 (fun E f1 hq => ?_) (fun r f1 hq => hq.elim)
  obtain ⟨rfl, rfl⟩ := hq
  exact VX_out X hT ⟨rfl, rfl⟩
set_option maxHeartbeats 4000000 in
set_option maxRecDepth 100000 in
theorem c_X5_matchThatAwaits_s (l : Launch) (hl : l.stackTraces = false) (G : GG) (f : Wo) (al : Tg → Nat) (fi : Nat → Nat → Int32) (z : CZ) (hR : RC G al fi z f) (m k : Nat) (hm : m < zN z 2) (hk : k < zN z 0) (ha : awC fi m (nI k) = false) : Cx l yX5_matchThatAwaits wsX5_matchThatAwaits 10 181 G [.ref (al (15, 0)), .int (nI m), .int (nI k)] f (fun _ _ => False) (fun E f' => E = "java/lang/IllegalStateException" ∧ f' = f) 1 6 := by
  refine Cx.of (cc := cX5_matchThatAwaits) (maxL := 4) (ret := (some (.object "LobbyMaker$Match"))) (by decide) rfl (Nat.le_of_ble_eq_true rfl) (lv := [(0, _), (1, _), (2, _)]) rfl (by simp [Value.category]) ?_
  intro K X hL hG hr hT
  subst hL; subst hG
  refine V_aload_n X rfl dX5_matchThatAwaits_0 ?_
  refine V_iload_n X rfl dX5_matchThatAwaits_1 ?_
  refine V_callVp X (rest := _) (c_X5_existingMatch_t _ _ _ al fi z hR m hm) (hR.2.1 (15, 0) (dm15)) rfl gX5_matchThatAwaits_X5_existingMatch rfl hdv_X5_existingMatch (Nat.le_of_ble_eq_true rfl) (Nat.le_of_ble_eq_true rfl) rfl (Nat.le_of_ble_eq_true rfl) dX5_matchThatAwaits_2 ?_
  refine V_astore_n X (lv' := [(3, _), (0, _), (1, _), (2, _)]) (by decide) rfl dX5_matchThatAwaits_5 ?_
  refine V_aload_n X rfl dX5_matchThatAwaits_6 ?_
  refine V_iload_n X rfl dX5_matchThatAwaits_7 ?_
  refine V_callVp X (rest := _) (c_X5_existingPlayer_t _ _ _ al fi z hR k hk) (hR.2.1 (15, 0) (dm15)) rfl gX5_matchThatAwaits_X5_existingPlayer rfl hdv_X5_existingPlayer (Nat.le_of_ble_eq_true rfl) (Nat.le_of_ble_eq_true rfl) rfl (Nat.le_of_ble_eq_true rfl) dX5_matchThatAwaits_8 ?_
  refine V_pop X rfl dX5_matchThatAwaits_11 ?_
  refine V_aload_n X rfl dX5_matchThatAwaits_12 ?_
  refine V_iload_n X rfl dX5_matchThatAwaits_13 ?_
  refine V_callVp X (rest := _) (c_X1_awaits _ _ _ al fi z hR m hm (nI k)) (hR.2.1 (2, m) (dm2 hm)) rfl gX5_matchThatAwaits_X1_awaits rfl hdv_X1_awaits (Nat.le_of_ble_eq_true rfl) (Nat.le_of_ble_eq_true rfl) rfl (Nat.le_of_ble_eq_true rfl) dX5_matchThatAwaits_14 ?_
  refine V_if_ne X (tgt := 30) (by decide) dX5_matchThatAwaits_17 (fun hc17 => absurd hc17 (fun q => q (by show bI (awC fi m (nI k)) = 0; rw [ha]; rfl))) (fun hc17 => ?_)
  exact V_throwS X hl hT "java/lang/IllegalStateException" "the match does not wait for this player" 44 214 48 ⟨rfl, rfl⟩ (by decide +kernel) (by decide +kernel) (by decide +kernel) (by decide) (by decide +kernel) xg_is xo_is dX5_matchThatAwaits_20 dX5_matchThatAwaits_23 dX5_matchThatAwaits_24 dX5_matchThatAwaits_26 dX5_matchThatAwaits_29 (Nat.le_of_ble_eq_true rfl) (Nat.le_of_ble_eq_true rfl) (by omega) (by omega)
theorem hinX5_accept_X1 : ∀ w ∈ wsX10, w ∈ wsX5_accept := by decide +kernel
set_option maxHeartbeats 4000000 in
set_option maxRecDepth 100000 in
theorem c_X5_accept_t (l : Launch) (G : GG) (f : Wo) (al : Tg → Nat) (fi : Nat → Nat → Int32) (z : CZ) (hR : RC G al fi z f) (m k : Nat) (hm : m < zN z 2) (hk : k < zN z 0) (ha : awC fi m (nI k) = true) : Ct l yX5_accept wsX5_accept 11 204 G [.ref (al (15, 0)), .int (nI m), .int (nI k)] f (fun v9 f' => v9 = some (.int (bI (decide (taF fi m (nI k) 13 m = 1)))) ∧ RC G al (taF fi m (nI k)) (z) f' ∧ FrC f f') 0 0 := by
  refine Ct.of (cc := cX5_accept) (maxL := 4) (ret := (some .boolean)) (by decide) rfl (Nat.le_of_ble_eq_true rfl) (lv := [(0, _), (1, _), (2, _)]) rfl (by simp [Value.category]) ?_
  intro K X hL hG hr hnm
  subst hL; subst hG
  have hF : FrC f f := FrC.rf
  refine V_aload_n X rfl dX5_accept_0 ?_
  refine V_iload_n X rfl dX5_accept_1 ?_
  refine V_iload_n X rfl dX5_accept_2 ?_
  refine V_callVp X (rest := _) (c_X5_matchThatAwaits_t _ _ _ al fi z hR m k hm hk ha) (hR.2.1 (15, 0) (dm15)) rfl gX5_accept_X5_matchThatAwaits rfl hdv_X5_matchThatAwaits (Nat.le_of_ble_eq_true rfl) (Nat.le_of_ble_eq_true rfl) rfl (Nat.le_of_ble_eq_true rfl) dX5_accept_3 ?_
  refine V_astore_n X (lv' := [(3, _), (0, _), (1, _), (2, _)]) (by decide) rfl dX5_accept_6 ?_
  refine V_aload_n X rfl dX5_accept_7 ?_
  refine V_iload_n X rfl dX5_accept_8 ?_
  refine V_callV (kc' := 0) (ks' := 0) X (rest := _) (c_X1_takeAnswer _ _ _ al fi z hR m hm (nI k)) (hR.2.1 (2, m) (dm2 hm)) rfl gX5_accept_X1_takeAnswer rfl hdv_X1_takeAnswer (Nat.le_of_ble_eq_true rfl) (Nat.le_of_ble_eq_true rfl) rfl (Nat.le_of_ble_eq_true rfl) (by omega) (by omega) dX5_accept_9 (fun r f1 hq => ?_)
  obtain ⟨rfl, hR, hF1⟩ := hq
  have hF := hF.trans hF1
  refine V_aload_n X rfl dX5_accept_12 ?_
  refine V_get X (T := TX1) (N := 7) (v := .int _) 5 (hR.2.1 (2, m) (dm2 hm)) rfl hinX5_accept_X1 (by decide) (by decide +kernel) (fun _ h9 => h9) (rfl) dX5_accept_13 ?_
  refine V_iconst X (v := 1) (by decide) dX5_accept_16 ?_
  refine V_icmp_ne X (tgt := 24) (by decide) dX5_accept_17 (fun hc17 => ?_) (fun hc17 => ?_)
  · refine V_iconst X (v := 0) (by decide) dX5_accept_24 ?_
    exact V_zret X hr (by decide) (⟨bI_f (decide_eq_false hc17), hR, hF⟩) dX5_accept_25
  · refine V_iconst X (v := 1) (by decide) dX5_accept_20 ?_
    refine V_goto X (tgt := 25) (by decide) dX5_accept_21 ?_
    exact V_zret X hr (by decide) (⟨bI_t (decide_eq_true hc17), hR, hF⟩) dX5_accept_25
set_option maxHeartbeats 4000000 in
set_option maxRecDepth 100000 in
theorem c_X5_accept_x1 (l : Launch) (hl : l.stackTraces = false) (G : GG) (f : Wo) (al : Tg → Nat) (fi : Nat → Nat → Int32) (z : CZ) (hR : RC G al fi z f) (i j : Int32) (h : i < 0 ∨ nI (zN z 2) ≤ i) : Cx l yX5_accept wsX5_accept 11 204 G [.ref (al (15, 0)), .int i, .int j] f (fun _ _ => False) (fun E f' => E = "java/lang/IndexOutOfBoundsException" ∧ f' = f) 1 6 := by
  refine Cx.of (cc := cX5_accept) (maxL := 4) (ret := (some .boolean)) (by decide) rfl (Nat.le_of_ble_eq_true rfl) (lv := [(0, _), (1, _), (2, _)]) rfl (by simp [Value.category]) ?_
  intro K X hL hG hr hT
  subst hL; subst hG
  refine V_aload_n X rfl dX5_accept_0 ?_
  refine V_iload_n X rfl dX5_accept_1 ?_
  refine V_iload_n X rfl dX5_accept_2 ?_
  refine V_callVX (kc' := 0) (ks' := 0) X (rest := _) (c_X5_matchThatAwaits_x1 _ hl _ _ al fi z hR i j h) (hR.2.1 (15, 0) (dm15)) rfl gX5_accept_X5_matchThatAwaits rfl hdv_X5_matchThatAwaits (Nat.le_of_ble_eq_true rfl) (Nat.le_of_ble_eq_true rfl) rfl (Nat.le_of_ble_eq_true rfl) (by omega) (by omega) dX5_accept_3 (fun E f1 hq => ?_) (fun r f1 hq => hq.elim)
  obtain ⟨rfl, rfl⟩ := hq
  exact VX_out X hT ⟨rfl, rfl⟩
set_option maxHeartbeats 4000000 in
set_option maxRecDepth 100000 in
theorem c_X5_accept_x2 (l : Launch) (hl : l.stackTraces = false) (G : GG) (f : Wo) (al : Tg → Nat) (fi : Nat → Nat → Int32) (z : CZ) (hR : RC G al fi z f) (m : Nat) (hm : m < zN z 2) (j : Int32) (h : j < 0 ∨ nI (zN z 0) ≤ j) : Cx l yX5_accept wsX5_accept 11 204 G [.ref (al (15, 0)), .int (nI m), .int j] f (fun _ _ => False) (fun E f' => E = "java/lang/IndexOutOfBoundsException" ∧ f' = f) 1 6 := by
  refine Cx.of (cc := cX5_accept) (maxL := 4) (ret := (some .boolean)) (by decide) rfl (Nat.le_of_ble_eq_true rfl) (lv := [(0, _), (1, _), (2, _)]) rfl (by simp [Value.category]) ?_
  intro K X hL hG hr hT
  subst hL; subst hG
  refine V_aload_n X rfl dX5_accept_0 ?_
  refine V_iload_n X rfl dX5_accept_1 ?_
  refine V_iload_n X rfl dX5_accept_2 ?_
  refine V_callVX (kc' := 0) (ks' := 0) X (rest := _) (c_X5_matchThatAwaits_x2 _ hl _ _ al fi z hR m hm j h) (hR.2.1 (15, 0) (dm15)) rfl gX5_accept_X5_matchThatAwaits rfl hdv_X5_matchThatAwaits (Nat.le_of_ble_eq_true rfl) (Nat.le_of_ble_eq_true rfl) rfl (Nat.le_of_ble_eq_true rfl) (by omega) (by omega) dX5_accept_3 (fun E f1 hq => ?_) (fun r f1 hq => hq.elim)
  obtain ⟨rfl, rfl⟩ := hq
  exact VX_out X hT ⟨rfl, rfl⟩
set_option maxHeartbeats 4000000 in
set_option maxRecDepth 100000 in
theorem c_X5_accept_s (l : Launch) (hl : l.stackTraces = false) (G : GG) (f : Wo) (al : Tg → Nat) (fi : Nat → Nat → Int32) (z : CZ) (hR : RC G al fi z f) (m k : Nat) (hm : m < zN z 2) (hk : k < zN z 0) (ha : awC fi m (nI k) = false) : Cx l yX5_accept wsX5_accept 11 204 G [.ref (al (15, 0)), .int (nI m), .int (nI k)] f (fun _ _ => False) (fun E f' => E = "java/lang/IllegalStateException" ∧ f' = f) 1 6 := by
  refine Cx.of (cc := cX5_accept) (maxL := 4) (ret := (some .boolean)) (by decide) rfl (Nat.le_of_ble_eq_true rfl) (lv := [(0, _), (1, _), (2, _)]) rfl (by simp [Value.category]) ?_
  intro K X hL hG hr hT
  subst hL; subst hG
  refine V_aload_n X rfl dX5_accept_0 ?_
  refine V_iload_n X rfl dX5_accept_1 ?_
  refine V_iload_n X rfl dX5_accept_2 ?_
  refine V_callVX (kc' := 0) (ks' := 0) X (rest := _) (c_X5_matchThatAwaits_s _ hl _ _ al fi z hR m k hm hk ha) (hR.2.1 (15, 0) (dm15)) rfl gX5_accept_X5_matchThatAwaits rfl hdv_X5_matchThatAwaits (Nat.le_of_ble_eq_true rfl) (Nat.le_of_ble_eq_true rfl) rfl (Nat.le_of_ble_eq_true rfl) (by omega) (by omega) dX5_accept_3 (fun E f1 hq => ?_) (fun r f1 hq => hq.elim)
  obtain ⟨rfl, rfl⟩ := hq
  exact VX_out X hT ⟨rfl, rfl⟩
def dcF (fi : Nat → Nat → Int32) (z : CZ) (m k : Nat) : Nat → Nat → Int32 := penF (sndF (fu fi 13 m 2) 1 (zL z (12, m))) (zA z k) k (fi 18 0)
theorem hinX5_decline_X5 : ∀ w ∈ wsX50, w ∈ wsX5_decline := by decide +kernel
set_option maxHeartbeats 4000000 in
set_option maxRecDepth 100000 in
theorem c_X5_decline_t (l : Launch) (G : GG) (f : Wo) (al : Tg → Nat) (fi : Nat → Nat → Int32) (z : CZ) (hR : RC G al fi z f) (m k : Nat) (hm : m < zN z 2) (hk : k < zN z 0) (ha : awC fi m (nI k) = true) : Ct l yX5_decline wsX5_decline 11 204 G [.ref (al (15, 0)), .int (nI m), .int (nI k)] f (fun v9 f' => v9 = some (.int (pnM (fi 3 k))) ∧ RC G al (dcF fi z m k) (z) f' ∧ FrC f f') 0 0 := by
  refine Ct.of (cc := cX5_decline) (maxL := 5) (ret := (some .int)) (by decide) rfl (Nat.le_of_ble_eq_true rfl) (lv := [(0, _), (1, _), (2, _)]) rfl (by simp [Value.category]) ?_
  intro K X hL hG hr hnm
  subst hL; subst hG
  have hF : FrC f f := FrC.rf
  refine V_aload_n X rfl dX5_decline_0 ?_
  refine V_iload_n X rfl dX5_decline_1 ?_
  refine V_iload_n X rfl dX5_decline_2 ?_
  refine V_callVp X (rest := _) (c_X5_matchThatAwaits_t _ _ _ al fi z hR m k hm hk ha) (hR.2.1 (15, 0) (dm15)) rfl gX5_decline_X5_matchThatAwaits rfl hdv_X5_matchThatAwaits (Nat.le_of_ble_eq_true rfl) (Nat.le_of_ble_eq_true rfl) rfl (Nat.le_of_ble_eq_true rfl) dX5_decline_3 ?_
  refine V_astore_n X (lv' := [(3, _), (0, _), (1, _), (2, _)]) (by decide) rfl dX5_decline_6 ?_
  refine V_aload_n X rfl dX5_decline_7 ?_
  refine V_iload_n X rfl dX5_decline_8 ?_
  refine V_callVp X (rest := _) (c_X5_existingPlayer_t _ _ _ al fi z hR k hk) (hR.2.1 (15, 0) (dm15)) rfl gX5_decline_X5_existingPlayer rfl hdv_X5_existingPlayer (Nat.le_of_ble_eq_true rfl) (Nat.le_of_ble_eq_true rfl) rfl (Nat.le_of_ble_eq_true rfl) dX5_decline_9 ?_
  refine V_astore X (lv' := [(4, _), (3, _), (0, _), (1, _), (2, _)]) (by decide) rfl dX5_decline_12 ?_
  refine V_aload_n X rfl dX5_decline_14 ?_
  refine V_callV (kc' := 0) (ks' := 0) X (rest := _) (c_X1_callOff _ _ _ al fi z hR m hm) (hR.2.1 (2, m) (dm2 hm)) rfl gX5_decline_X1_callOff rfl hdv_X1_callOff (Nat.le_of_ble_eq_true rfl) (Nat.le_of_ble_eq_true rfl) rfl (Nat.le_of_ble_eq_true rfl) (by omega) (by omega) dX5_decline_15 (fun r f1 hq => ?_)
  obtain ⟨rfl, hR, hF1⟩ := hq
  have hF := hF.trans hF1
  refine V_aload X rfl dX5_decline_18 ?_
  refine V_aload_n X rfl dX5_decline_20 ?_
  refine V_get X (T := TX5) (N := 5) (v := .int _) 4 (hR.2.1 (15, 0) (dm15)) rfl hinX5_decline_X5 (by decide) (by decide +kernel) (fun _ h9 => h9) (rfl) dX5_decline_21 ?_
  refine V_callV (kc' := 0) (ks' := 0) X (rest := _) (c_X3_penaliseAt _ _ _ al _ z hR k hk _) (hR.2.1 (0, k) (dm0 hk)) rfl gX5_decline_X3_penaliseAt rfl hdv_X3_penaliseAt (Nat.le_of_ble_eq_true rfl) (Nat.le_of_ble_eq_true rfl) rfl (Nat.le_of_ble_eq_true rfl) (by omega) (by omega) dX5_decline_24 (fun r f1 hq => ?_)
  obtain ⟨rfl, hR, hF1⟩ := hq
  have hF := hF.trans hF1
  exact V_iret X hr (⟨rfl, hR, hF⟩) dX5_decline_27
set_option maxHeartbeats 4000000 in
set_option maxRecDepth 100000 in
theorem c_X5_decline_x1 (l : Launch) (hl : l.stackTraces = false) (G : GG) (f : Wo) (al : Tg → Nat) (fi : Nat → Nat → Int32) (z : CZ) (hR : RC G al fi z f) (i j : Int32) (h : i < 0 ∨ nI (zN z 2) ≤ i) : Cx l yX5_decline wsX5_decline 11 204 G [.ref (al (15, 0)), .int i, .int j] f (fun _ _ => False) (fun E f' => E = "java/lang/IndexOutOfBoundsException" ∧ f' = f) 1 6 := by
  refine Cx.of (cc := cX5_decline) (maxL := 5) (ret := (some .int)) (by decide) rfl (Nat.le_of_ble_eq_true rfl) (lv := [(0, _), (1, _), (2, _)]) rfl (by simp [Value.category]) ?_
  intro K X hL hG hr hT
  subst hL; subst hG
  refine V_aload_n X rfl dX5_decline_0 ?_
  refine V_iload_n X rfl dX5_decline_1 ?_
  refine V_iload_n X rfl dX5_decline_2 ?_
  refine V_callVX (kc' := 0) (ks' := 0) X (rest := _) (c_X5_matchThatAwaits_x1 _ hl _ _ al fi z hR i j h) (hR.2.1 (15, 0) (dm15)) rfl gX5_decline_X5_matchThatAwaits rfl hdv_X5_matchThatAwaits (Nat.le_of_ble_eq_true rfl) (Nat.le_of_ble_eq_true rfl) rfl (Nat.le_of_ble_eq_true rfl) (by omega) (by omega) dX5_decline_3 (fun E f1 hq => ?_) (fun r f1 hq => hq.elim)
  obtain ⟨rfl, rfl⟩ := hq
  exact VX_out X hT ⟨rfl, rfl⟩
set_option maxHeartbeats 4000000 in
set_option maxRecDepth 100000 in
theorem c_X5_decline_x2 (l : Launch) (hl : l.stackTraces = false) (G : GG) (f : Wo) (al : Tg → Nat) (fi : Nat → Nat → Int32) (z : CZ) (hR : RC G al fi z f) (m : Nat) (hm : m < zN z 2) (j : Int32) (h : j < 0 ∨ nI (zN z 0) ≤ j) : Cx l yX5_decline wsX5_decline 11 204 G [.ref (al (15, 0)), .int (nI m), .int j] f (fun _ _ => False) (fun E f' => E = "java/lang/IndexOutOfBoundsException" ∧ f' = f) 1 6 := by
  refine Cx.of (cc := cX5_decline) (maxL := 5) (ret := (some .int)) (by decide) rfl (Nat.le_of_ble_eq_true rfl) (lv := [(0, _), (1, _), (2, _)]) rfl (by simp [Value.category]) ?_
  intro K X hL hG hr hT
  subst hL; subst hG
  refine V_aload_n X rfl dX5_decline_0 ?_
  refine V_iload_n X rfl dX5_decline_1 ?_
  refine V_iload_n X rfl dX5_decline_2 ?_
  refine V_callVX (kc' := 0) (ks' := 0) X (rest := _) (c_X5_matchThatAwaits_x2 _ hl _ _ al fi z hR m hm j h) (hR.2.1 (15, 0) (dm15)) rfl gX5_decline_X5_matchThatAwaits rfl hdv_X5_matchThatAwaits (Nat.le_of_ble_eq_true rfl) (Nat.le_of_ble_eq_true rfl) rfl (Nat.le_of_ble_eq_true rfl) (by omega) (by omega) dX5_decline_3 (fun E f1 hq => ?_) (fun r f1 hq => hq.elim)
  obtain ⟨rfl, rfl⟩ := hq
  exact VX_out X hT ⟨rfl, rfl⟩
set_option maxHeartbeats 4000000 in
set_option maxRecDepth 100000 in
theorem c_X5_decline_s (l : Launch) (hl : l.stackTraces = false) (G : GG) (f : Wo) (al : Tg → Nat) (fi : Nat → Nat → Int32) (z : CZ) (hR : RC G al fi z f) (m k : Nat) (hm : m < zN z 2) (hk : k < zN z 0) (ha : awC fi m (nI k) = false) : Cx l yX5_decline wsX5_decline 11 204 G [.ref (al (15, 0)), .int (nI m), .int (nI k)] f (fun _ _ => False) (fun E f' => E = "java/lang/IllegalStateException" ∧ f' = f) 1 6 := by
  refine Cx.of (cc := cX5_decline) (maxL := 5) (ret := (some .int)) (by decide) rfl (Nat.le_of_ble_eq_true rfl) (lv := [(0, _), (1, _), (2, _)]) rfl (by simp [Value.category]) ?_
  intro K X hL hG hr hT
  subst hL; subst hG
  refine V_aload_n X rfl dX5_decline_0 ?_
  refine V_iload_n X rfl dX5_decline_1 ?_
  refine V_iload_n X rfl dX5_decline_2 ?_
  refine V_callVX (kc' := 0) (ks' := 0) X (rest := _) (c_X5_matchThatAwaits_s _ hl _ _ al fi z hR m k hm hk ha) (hR.2.1 (15, 0) (dm15)) rfl gX5_decline_X5_matchThatAwaits rfl hdv_X5_matchThatAwaits (Nat.le_of_ble_eq_true rfl) (Nat.le_of_ble_eq_true rfl) rfl (Nat.le_of_ble_eq_true rfl) (by omega) (by omega) dX5_decline_3 (fun E f1 hq => ?_) (fun r f1 hq => hq.elim)
  obtain ⟨rfl, rfl⟩ := hq
  exact VX_out X hT ⟨rfl, rfl⟩
