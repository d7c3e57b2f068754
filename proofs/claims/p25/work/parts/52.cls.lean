/-! ===== the class's small methods ===== -/
def stC (fi : Nat → Nat → Int32) : Option Nat → Int32
  | none => 0
  | some p => fi 7 p
theorem hinX3_standing_X2 : ∀ w ∈ wsX20, w ∈ wsX3_standing := by decide +kernel
theorem hinX3_standing_X3 : ∀ w ∈ wsX30, w ∈ wsX3_standing := by decide +kernel
set_option maxHeartbeats 4000000 in
set_option maxRecDepth 100000 in
theorem c_X3_standing (l : Launch) (G : GG) (f : Wo) (al : Tg → Nat) (fi : Nat → Nat → Int32) (z : CZ) (hR : RC G al fi z f) (k : Nat) (hk : k < zN z 0) : Cp l yX3_standing wsX3_standing 1 44 G [.ref (al (0, k))] f (.int (stC fi (zA z k))) := by
  refine Ct.of (cc := cX3_standing) (maxL := 1) (ret := (some .int)) (by decide) rfl (Nat.le_of_ble_eq_true rfl) (lv := [(0, _)]) rfl (by simp [Value.category]) ?_
  intro K X hL hG hr hnm
  subst hL; subst hG
  cases hla : zA z k with
  | none =>
    refine V_aload_n X rfl dX3_standing_0 ?_
    refine V_get X (T := TX3) (N := 6) (v := .null) 5 (hR.2.1 (0, k) (dm0 hk)) rfl hinX3_standing_X3 (by decide) (by decide +kernel) (fun _ h9 => h9) ((by show some (laR al (zA z k)) = _; rw [hla]; rfl)) dX3_standing_1 ?_
    refine V_ifnonnullN X dX3_standing_4 ?_
    refine V_iconst X (v := 0) (by decide) dX3_standing_7 ?_
    refine V_goto X (tgt := 18) (by decide) dX3_standing_8 ?_
    exact V_iret X hr (⟨by rw [hla]; rfl, rfl⟩) dX3_standing_18
  | some p =>
    have hp : p < zN z 1 := hR.1.2.1 k hk p hla
    refine V_aload_n X rfl dX3_standing_0 ?_
    refine V_get X (T := TX3) (N := 6) (v := .ref (al (1, p))) 5 (hR.2.1 (0, k) (dm0 hk)) rfl hinX3_standing_X3 (by decide) (by decide +kernel) (fun _ h9 => h9) ((by show some (laR al (zA z k)) = _; rw [hla]; rfl)) dX3_standing_1 ?_
    refine V_ifnonnull X (tgt := 11) (by decide) dX3_standing_4 ?_
    refine V_aload_n X rfl dX3_standing_11 ?_
    refine V_get X (T := TX3) (N := 6) (v := .ref (al (1, p))) 5 (hR.2.1 (0, k) (dm0 hk)) rfl hinX3_standing_X3 (by decide) (by decide +kernel) (fun _ h9 => h9) ((by show some (laR al (zA z k)) = _; rw [hla]; rfl)) dX3_standing_12 ?_
    refine V_get X (T := TX2) (N := 5) (v := .int _) 3 (hR.2.1 (1, p) (dm1 hp)) rfl hinX3_standing_X2 (by decide) (by decide +kernel) (fun _ h9 => h9) (rfl) dX3_standing_15 ?_
    exact V_iret X hr (⟨by rw [hla]; rfl, rfl⟩) dX3_standing_18
def pnL (x : Int32) : Int32 := if x + 1 < 5 then x + 1 else 5
def pnM (x : Int32) : Int32 := 5 <<< ((pnL x - 1) &&& 31)
def penF (fi : Nat → Nat → Int32) (la : Option Nat) (k : Nat) (m : Int32) : Nat → Nat → Int32 := fu (fu (match la with | none => fi | some p => fu fi 7 p 0) 3 k (pnL (fi 3 k))) 4 k (m + pnM (fi 3 k))
theorem hinX3_penaliseAt_X2 : ∀ w ∈ wsX20, w ∈ wsX3_penaliseAt := by decide +kernel
theorem hinX3_penaliseAt_X3 : ∀ w ∈ wsX30, w ∈ wsX3_penaliseAt := by decide +kernel
set_option maxHeartbeats 4000000 in
set_option maxRecDepth 100000 in
theorem c_X3_penaliseAt (l : Launch) (G : GG) (f : Wo) (al : Tg → Nat) (fi : Nat → Nat → Int32) (z : CZ) (hR : RC G al fi z f) (k : Nat) (hk : k < zN z 0) (m : Int32) : Ct l yX3_penaliseAt wsX3_penaliseAt 2 60 G [.ref (al (0, k)), .int m] f (fun v9 f' => v9 = some (.int (pnM (fi 3 k))) ∧ RC G al (penF fi (zA z k) k m) (z) f' ∧ FrC f f') 0 0 := by
  refine Ct.of (cc := cX3_penaliseAt) (maxL := 3) (ret := (some .int)) (by decide) rfl (Nat.le_of_ble_eq_true rfl) (lv := [(0, _), (1, _)]) rfl (by simp [Value.category]) ?_
  intro K X hL hG hr hnm
  subst hL; subst hG
  have hF : FrC f f := FrC.rf
  cases hla : zA z k with
  | none =>
    refine V_aload_n X rfl dX3_penaliseAt_0 ?_
    refine V_get X (T := TX3) (N := 6) (v := .null) 5 (hR.2.1 (0, k) (dm0 hk)) rfl hinX3_penaliseAt_X3 (by decide) (by decide +kernel) (fun _ h9 => h9) ((by show some (laR al (zA z k)) = _; rw [hla]; rfl)) dX3_penaliseAt_1 ?_
    refine V_ifnullN X (tgt := 15) (by decide) dX3_penaliseAt_4 ?_
    refine V_aload_n X rfl dX3_penaliseAt_15 ?_
    refine V_iconst X (v := 5) (by decide) dX3_penaliseAt_16 ?_
    refine V_aload_n X rfl dX3_penaliseAt_17 ?_
    refine V_get X (T := TX3) (N := 6) (v := .int _) 3 (hR.2.1 (0, k) (dm0 hk)) rfl hinX3_penaliseAt_X3 (by decide) (by decide +kernel) (fun _ h9 => h9) (rfl) dX3_penaliseAt_18 ?_
    refine V.top (y := fi 3 k) (rfl) ?_
    refine V_iconst X (v := 1) (by decide) dX3_penaliseAt_21 ?_
    refine V_iadd X dX3_penaliseAt_22 ?_
    refine V_min X (by decide +kernel) (by decide +kernel) (by decide +kernel) (by decide +kernel) (Nat.le_of_ble_eq_true rfl) (Nat.le_of_ble_eq_true rfl) dX3_penaliseAt_23 ?_
    refine V.top (y := pnL (fi 3 k)) (rfl) ?_
    refine V_cput X hR hF (T := TX3) (N := 6) 3 k 3 (dm0 hk) rfl hinX3_penaliseAt_X3 tyX3_ok nmX3 (by decide) (by decide +kernel) (fun _ h9 => h9) rfl rfl (Nat.le_of_ble_eq_true rfl) (fst_3 _ _ _ _ _) dX3_penaliseAt_26 (fun f hR hF => ?_)
    refine V_iconst X (v := 5) (by decide) dX3_penaliseAt_29 ?_
    refine V_aload_n X rfl dX3_penaliseAt_30 ?_
    refine V_get X (T := TX3) (N := 6) (v := .int _) 3 (hR.2.1 (0, k) (dm0 hk)) rfl hinX3_penaliseAt_X3 (by decide) (by decide +kernel) (fun _ h9 => h9) (rfl) dX3_penaliseAt_31 ?_
    refine V.top (y := pnL (fi 3 k)) (fu_self _ _ _ _) ?_
    refine V_iconst X (v := 1) (by decide) dX3_penaliseAt_34 ?_
    refine V_isub X dX3_penaliseAt_35 ?_
    refine V_ishl X dX3_penaliseAt_36 ?_
    refine V.top (y := pnM (fi 3 k)) (rfl) ?_
    refine V_istore_n X (lv' := [(2, _), (0, _), (1, _)]) (by decide) rfl dX3_penaliseAt_37 ?_
    refine V_aload_n X rfl dX3_penaliseAt_38 ?_
    refine V_iload_n X rfl dX3_penaliseAt_39 ?_
    refine V_iload_n X rfl dX3_penaliseAt_40 ?_
    refine V_iadd X dX3_penaliseAt_41 ?_
    refine V_cput X hR hF (T := TX3) (N := 6) 4 k 4 (dm0 hk) rfl hinX3_penaliseAt_X3 tyX3_ok nmX3 (by decide) (by decide +kernel) (fun _ h9 => h9) rfl rfl (Nat.le_of_ble_eq_true rfl) (fst_4 _ _ _ _ _) dX3_penaliseAt_42 (fun f hR hF => ?_)
    refine V_iload_n X rfl dX3_penaliseAt_45 ?_
    exact V_iret X hr (⟨rfl, (by rw [hla]; exact hR), hF⟩) dX3_penaliseAt_46
  | some p =>
    have hp : p < zN z 1 := hR.1.2.1 k hk p hla
    refine V_aload_n X rfl dX3_penaliseAt_0 ?_
    refine V_get X (T := TX3) (N := 6) (v := .ref (al (1, p))) 5 (hR.2.1 (0, k) (dm0 hk)) rfl hinX3_penaliseAt_X3 (by decide) (by decide +kernel) (fun _ h9 => h9) ((by show some (laR al (zA z k)) = _; rw [hla]; rfl)) dX3_penaliseAt_1 ?_
    refine V_ifnull X dX3_penaliseAt_4 ?_
    refine V_aload_n X rfl dX3_penaliseAt_7 ?_
    refine V_get X (T := TX3) (N := 6) (v := .ref (al (1, p))) 5 (hR.2.1 (0, k) (dm0 hk)) rfl hinX3_penaliseAt_X3 (by decide) (by decide +kernel) (fun _ h9 => h9) ((by show some (laR al (zA z k)) = _; rw [hla]; rfl)) dX3_penaliseAt_8 ?_
    refine V_iconst X (v := 0) (by decide) dX3_penaliseAt_11 ?_
    refine V_cput X hR hF (T := TX2) (N := 5) 7 p 3 (dm1 hp) rfl hinX3_penaliseAt_X2 tyX2_ok nmX2 (by decide) (by decide +kernel) (fun _ h9 => h9) rfl rfl (Nat.le_of_ble_eq_true rfl) (fst_7 _ _ _ _ _) dX3_penaliseAt_12 (fun f hR hF => ?_)
    refine V_aload_n X rfl dX3_penaliseAt_15 ?_
    refine V_iconst X (v := 5) (by decide) dX3_penaliseAt_16 ?_
    refine V_aload_n X rfl dX3_penaliseAt_17 ?_
    refine V_get X (T := TX3) (N := 6) (v := .int _) 3 (hR.2.1 (0, k) (dm0 hk)) rfl hinX3_penaliseAt_X3 (by decide) (by decide +kernel) (fun _ h9 => h9) (rfl) dX3_penaliseAt_18 ?_
    refine V.top (y := fi 3 k) (rfl) ?_
    refine V_iconst X (v := 1) (by decide) dX3_penaliseAt_21 ?_
    refine V_iadd X dX3_penaliseAt_22 ?_
    refine V_min X (by decide +kernel) (by decide +kernel) (by decide +kernel) (by decide +kernel) (Nat.le_of_ble_eq_true rfl) (Nat.le_of_ble_eq_true rfl) dX3_penaliseAt_23 ?_
    refine V.top (y := pnL (fi 3 k)) (rfl) ?_
    refine V_cput X hR hF (T := TX3) (N := 6) 3 k 3 (dm0 hk) rfl hinX3_penaliseAt_X3 tyX3_ok nmX3 (by decide) (by decide +kernel) (fun _ h9 => h9) rfl rfl (Nat.le_of_ble_eq_true rfl) (fst_3 _ _ _ _ _) dX3_penaliseAt_26 (fun f hR hF => ?_)
    refine V_iconst X (v := 5) (by decide) dX3_penaliseAt_29 ?_
    refine V_aload_n X rfl dX3_penaliseAt_30 ?_
    refine V_get X (T := TX3) (N := 6) (v := .int _) 3 (hR.2.1 (0, k) (dm0 hk)) rfl hinX3_penaliseAt_X3 (by decide) (by decide +kernel) (fun _ h9 => h9) (rfl) dX3_penaliseAt_31 ?_
    refine V.top (y := pnL (fi 3 k)) (fu_self _ _ _ _) ?_
    refine V_iconst X (v := 1) (by decide) dX3_penaliseAt_34 ?_
    refine V_isub X dX3_penaliseAt_35 ?_
    refine V_ishl X dX3_penaliseAt_36 ?_
    refine V.top (y := pnM (fi 3 k)) (rfl) ?_
    refine V_istore_n X (lv' := [(2, _), (0, _), (1, _)]) (by decide) rfl dX3_penaliseAt_37 ?_
    refine V_aload_n X rfl dX3_penaliseAt_38 ?_
    refine V_iload_n X rfl dX3_penaliseAt_39 ?_
    refine V_iload_n X rfl dX3_penaliseAt_40 ?_
    refine V_iadd X dX3_penaliseAt_41 ?_
    refine V_cput X hR hF (T := TX3) (N := 6) 4 k 4 (dm0 hk) rfl hinX3_penaliseAt_X3 tyX3_ok nmX3 (by decide) (by decide +kernel) (fun _ h9 => h9) rfl rfl (Nat.le_of_ble_eq_true rfl) (fst_4 _ _ _ _ _) dX3_penaliseAt_42 (fun f hR hF => ?_)
    refine V_iload_n X rfl dX3_penaliseAt_45 ?_
    exact V_iret X hr (⟨rfl, (by rw [hla]; exact hR), hF⟩) dX3_penaliseAt_46
def lrP (p d g : Int32) : Int32 := let x := p + downI (d * g) 8000; let y := if 0 < x then x else 0; if y < 4000 then y else 4000
def lrD (d : Int32) : Int32 := let y := d * 9 / 10; if 50 < y then y else 50
def lrL (x : Int32) : Int32 := let y := x - 1; if 0 < y then y else 0
def lrnF (fi : Nat → Nat → Int32) (k : Nat) (g : Int32) : Nat → Nat → Int32 := fu (fu (fu fi 1 k (lrP (fi 1 k) (fi 2 k) g)) 2 k (lrD (fi 2 k))) 3 k (lrL (fi 3 k))
theorem hinX3_learn_X3 : ∀ w ∈ wsX30, w ∈ wsX3_learn := by decide +kernel
set_option maxHeartbeats 4000000 in
set_option maxRecDepth 100000 in
theorem c_X3_learn (l : Launch) (G : GG) (f : Wo) (al : Tg → Nat) (fi : Nat → Nat → Int32) (z : CZ) (hR : RC G al fi z f) (k : Nat) (hk : k < zN z 0) (g : Int32) : Ct l yX3_learn wsX3_learn 2 66 G [.ref (al (0, k)), .int g] f (fun v9 f' => v9 = none ∧ RC G al (lrnF fi k g) (z) f' ∧ FrC f f') 0 0 := by
  refine Ct.of (cc := cX3_learn) (maxL := 3) (ret := none) (by decide) rfl (Nat.le_of_ble_eq_true rfl) (lv := [(0, _), (1, _)]) rfl (by simp [Value.category]) ?_
  intro K X hL hG hr hnm
  subst hL; subst hG
  have hF : FrC f f := FrC.rf
  refine V_aload_n X rfl dX3_learn_0 ?_
  refine V_get X (T := TX3) (N := 6) (v := .int _) 1 (hR.2.1 (0, k) (dm0 hk)) rfl hinX3_learn_X3 (by decide) (by decide +kernel) (fun _ h9 => h9) (rfl) dX3_learn_1 ?_
  refine V_aload_n X rfl dX3_learn_4 ?_
  refine V_get X (T := TX3) (N := 6) (v := .int _) 2 (hR.2.1 (0, k) (dm0 hk)) rfl hinX3_learn_X3 (by decide) (by decide +kernel) (fun _ h9 => h9) (rfl) dX3_learn_5 ?_
  refine V_iload_n X rfl dX3_learn_8 ?_
  refine V_imul X dX3_learn_9 ?_
  refine V_sipush X (v := 8000) (by decide) dX3_learn_10 ?_
  refine V_fdiv X (by decide) (by decide) (by decide +kernel) (by decide +kernel) (by decide +kernel) (by decide +kernel) (Nat.le_of_ble_eq_true rfl) (Nat.le_of_ble_eq_true rfl) (Nat.le_of_ble_eq_true rfl) dX3_learn_13 ?_
  refine V_iadd X dX3_learn_16 ?_
  refine V_istore_n X (lv' := [(2, _), (0, _), (1, _)]) (by decide) rfl dX3_learn_17 ?_
  refine V_aload_n X rfl dX3_learn_18 ?_
  refine V_sipush X (v := 4000) (by decide) dX3_learn_19 ?_
  refine V_iconst X (v := 0) (by decide) dX3_learn_22 ?_
  refine V_iload_n X rfl dX3_learn_23 ?_
  refine V_max X (by decide +kernel) (by decide +kernel) (by decide +kernel) (by decide +kernel) (Nat.le_of_ble_eq_true rfl) (Nat.le_of_ble_eq_true rfl) dX3_learn_24 ?_
  refine V_min X (by decide +kernel) (by decide +kernel) (by decide +kernel) (by decide +kernel) (Nat.le_of_ble_eq_true rfl) (Nat.le_of_ble_eq_true rfl) dX3_learn_27 ?_
  refine V.top (y := lrP (fi 1 k) (fi 2 k) g) (rfl) ?_
  refine V_cput X hR hF (T := TX3) (N := 6) 1 k 1 (dm0 hk) rfl hinX3_learn_X3 tyX3_ok nmX3 (by decide) (by decide +kernel) (fun _ h9 => h9) rfl rfl (Nat.le_of_ble_eq_true rfl) (fst_1 _ _ _ _ _) dX3_learn_30 (fun f hR hF => ?_)
  refine V_aload_n X rfl dX3_learn_33 ?_
  refine V_bipush X (v := 50) (by decide) dX3_learn_34 ?_
  refine V_aload_n X rfl dX3_learn_36 ?_
  refine V_get X (T := TX3) (N := 6) (v := .int _) 2 (hR.2.1 (0, k) (dm0 hk)) rfl hinX3_learn_X3 (by decide) (by decide +kernel) (fun _ h9 => h9) (rfl) dX3_learn_37 ?_
  refine V.top (y := fi 2 k) (rfl) ?_
  refine V_bipush X (v := 9) (by decide) dX3_learn_40 ?_
  refine V_imul X dX3_learn_42 ?_
  refine V_bipush X (v := 10) (by decide) dX3_learn_43 ?_
  refine V_idiv X (by decide) dX3_learn_45 ?_
  refine V_max X (by decide +kernel) (by decide +kernel) (by decide +kernel) (by decide +kernel) (Nat.le_of_ble_eq_true rfl) (Nat.le_of_ble_eq_true rfl) dX3_learn_46 ?_
  refine V.top (y := lrD (fi 2 k)) (rfl) ?_
  refine V_cput X hR hF (T := TX3) (N := 6) 2 k 2 (dm0 hk) rfl hinX3_learn_X3 tyX3_ok nmX3 (by decide) (by decide +kernel) (fun _ h9 => h9) rfl rfl (Nat.le_of_ble_eq_true rfl) (fst_2 _ _ _ _ _) dX3_learn_49 (fun f hR hF => ?_)
  refine V_aload_n X rfl dX3_learn_52 ?_
  refine V_iconst X (v := 0) (by decide) dX3_learn_53 ?_
  refine V_aload_n X rfl dX3_learn_54 ?_
  refine V_get X (T := TX3) (N := 6) (v := .int _) 3 (hR.2.1 (0, k) (dm0 hk)) rfl hinX3_learn_X3 (by decide) (by decide +kernel) (fun _ h9 => h9) (rfl) dX3_learn_55 ?_
  refine V.top (y := fi 3 k) (rfl) ?_
  refine V_iconst X (v := 1) (by decide) dX3_learn_58 ?_
  refine V_isub X dX3_learn_59 ?_
  refine V_max X (by decide +kernel) (by decide +kernel) (by decide +kernel) (by decide +kernel) (Nat.le_of_ble_eq_true rfl) (Nat.le_of_ble_eq_true rfl) dX3_learn_60 ?_
  refine V.top (y := lrL (fi 3 k)) (rfl) ?_
  refine V_cput X hR hF (T := TX3) (N := 6) 3 k 3 (dm0 hk) rfl hinX3_learn_X3 tyX3_ok nmX3 (by decide) (by decide +kernel) (fun _ h9 => h9) rfl rfl (Nat.le_of_ble_eq_true rfl) (fst_3 _ _ _ _ _) dX3_learn_63 (fun f hR hF => ?_)
  exact V_vret X hr (⟨rfl, hR, hF⟩) dX3_learn_66
theorem hinX2_windowAt_X2 : ∀ w ∈ wsX20, w ∈ wsX2_windowAt := by decide +kernel
set_option maxHeartbeats 4000000 in
set_option maxRecDepth 100000 in
theorem c_X2_windowAt (l : Launch) (G : GG) (f : Wo) (al : Tg → Nat) (fi : Nat → Nat → Int32) (z : CZ) (hR : RC G al fi z f) (p : Nat) (hp : p < zN z 1) (m : Int32) : Cp l yX2_windowAt wsX2_windowAt 1 44 G [.ref (al (1, p)), .int m] f (.int (100 + 20 * (m - fi 6 p))) := by
  refine Ct.of (cc := cX2_windowAt) (maxL := 2) (ret := (some .int)) (by decide) rfl (Nat.le_of_ble_eq_true rfl) (lv := [(0, _), (1, _)]) rfl (by simp [Value.category]) ?_
  intro K X hL hG hr hnm
  subst hL; subst hG
  refine V_bipush X (v := 100) (by decide) dX2_windowAt_0 ?_
  refine V_bipush X (v := 20) (by decide) dX2_windowAt_2 ?_
  refine V_iload_n X rfl dX2_windowAt_4 ?_
  refine V_aload_n X rfl dX2_windowAt_5 ?_
  refine V_get X (T := TX2) (N := 5) (v := .int _) 1 (hR.2.1 (1, p) (dm1 hp)) rfl hinX2_windowAt_X2 (by decide) (by decide +kernel) (fun _ h9 => h9) (rfl) dX2_windowAt_6 ?_
  refine V_isub X dX2_windowAt_9 ?_
  refine V_imul X dX2_windowAt_10 ?_
  refine V_iadd X dX2_windowAt_11 ?_
  exact V_iret X hr (⟨rfl, rfl⟩) dX2_windowAt_12
