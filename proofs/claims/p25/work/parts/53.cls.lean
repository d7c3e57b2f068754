/-! ===== sums and parties of the class ===== -/
def ptT (fi : Nat → Nat → Int32) (xs : List Nat) : Nat → Int32 := fun i => fi 1 (xs.getD i 0)
def smC (fi : Nat → Nat → Int32) (xs : List Nat) : Int32 := sumI (ptT fi xs) xs.length
theorem ptT_at {fi : Nat → Nat → Int32} {xs : List Nat} {i j : Nat} (h : xs[i]? = some j) : fi 1 j = ptT fi xs i := by simp [ptT, List.getD, h]
def mnC (fi : Nat → Nat → Int32) (xs : List Nat) : Int32 := if xs.length = 0 then 0 else smC fi xs / nI xs.length
def wnC (fi : Nat → Nat → Int32) (p : Nat) (m : Int32) : Int32 := 100 + 20 * (m - fi 6 p)
def dfC (fi : Nat → Nat → Int32) (z : CZ) (p q : Nat) : Int32 := let d := mnC fi (zL z (11, p)) - mnC fi (zL z (11, q)); if 0 ≤ d then d else 0 - d
def ftC (fi : Nat → Nat → Int32) (z : CZ) (m : Int32) (p q : Nat) : Bool := decide (dfC fi z p q ≤ wnC fi p m) && decide (dfC fi z p q ≤ wnC fi q m)
theorem hinX2_points_X2 : ∀ w ∈ wsX20, w ∈ wsX2_points := by decide +kernel
theorem hinX2_points_X3 : ∀ w ∈ wsX30, w ∈ wsX2_points := by decide +kernel
set_option maxHeartbeats 4000000 in
set_option maxRecDepth 100000 in
theorem c_X2_points (l : Launch) (G : GG) (f : Wo) (al : Tg → Nat) (fi : Nat → Nat → Int32) (z : CZ) (hR : RC G al fi z f) (p : Nat) (hp : p < zN z 1) : Cp l yX2_points wsX2_points 9 160 G [.ref (al (1, p))] f (.int (smC fi (zL z (11, p)))) := by
  refine Ct.of (cc := cX2_points) (maxL := 3) (ret := (some .int)) (by decide) rfl (Nat.le_of_ble_eq_true rfl) (lv := [(0, _)]) rfl (by simp [Value.category]) ?_
  intro K X hL hG hr hnm
  subst hL; subst hG
  have hL := (hR.cap (dl11 hp)).1
  have hL2 := (hR.cap (dl11 hp)).2
  have L : ∀ (n i : Nat), (zL z (11, p)).length - i = n → i ≤ (zL z (11, p)).length → V K f 0 0 4 [(0, .ref (al (1, p))), (1, .int (sumI (ptT fi (zL z (11, p))) i)), (2, .int (nI i))] [] := by
    intro n
    induction n using Nat.strongRecOn with
    | ind n ih =>
      intro i hn hi
      refine V_iload_n X rfl dX2_points_4 ?_
      refine V_aload_n X rfl dX2_points_5 ?_
      refine V_get X (T := TX2) (N := 5) (v := .ref _) 2 (hR.2.1 (1, p) (dm1 hp)) rfl hinX2_points_X2 (by decide) (by decide +kernel) (fun _ h9 => h9) (rfl) dX2_points_6 ?_
      refine V_csize X hR (rest := _) (11, p) (dl11 hp) gX2_points_Jx4a65c_size_8abf5 (Nat.le_of_ble_eq_true rfl) (Nat.le_of_ble_eq_true rfl) (Nat.le_of_ble_eq_true rfl) dX2_points_9 ?_
      refine V_icmp_ge X (tgt := 38) (by decide) dX2_points_12 (fun hc12 => ?_) (fun hc12 => ?_)
      · have hiN := lim_ge (N := (zL z (11, p)).length) rfl hc12 hi (by omega)
        refine V_iload_n X rfl dX2_points_38 ?_
        exact V_iret X hr (⟨by rw [hiN]; rfl, rfl⟩) dX2_points_39
      · have hlt := lim_lt (N := (zL z (11, p)).length) rfl hc12 hi (by omega)
        obtain ⟨j, hj⟩ : ∃ j, (zL z (11, p))[i]? = some j := ⟨_, List.getElem?_eq_getElem hlt⟩
        have hj0 : j < zN z 0 := hR.el (dl11 hp) hj
        refine V_iload_n X rfl dX2_points_15 ?_
        refine V_aload_n X rfl dX2_points_16 ?_
        refine V_get X (T := TX2) (N := 5) (v := .ref _) 2 (hR.2.1 (1, p) (dm1 hp)) rfl hinX2_points_X2 (by decide) (by decide +kernel) (fun _ h9 => h9) (rfl) dX2_points_17 ?_
        refine V_iload_n X rfl dX2_points_20 ?_
        refine V_cnth X hR (rest := _) (11, p) (dl11 hp) (i) (j) (hj) gX2_points_Jx4a65c_get_915e3 (Nat.le_of_ble_eq_true rfl) (Nat.le_of_ble_eq_true rfl) (Nat.le_of_ble_eq_true rfl) dX2_points_21 ?_
        refine V_cast X (hR.2.1 (0, j) (dm0 hj0)) rfl (by decide +kernel) dX2_points_24 ?_
        refine V_get X (T := TX3) (N := 6) (v := .int _) 1 (hR.2.1 (0, j) (dm0 hj0)) rfl hinX2_points_X3 (by decide) (by decide +kernel) (fun _ h9 => h9) (rfl) dX2_points_27 ?_
        refine V_iadd X dX2_points_30 ?_
        refine V.top (y := sumI (ptT fi (zL z (11, p))) (i + 1)) (congrArg (sumI (ptT fi (zL z (11, p))) i + ·) (ptT_at hj)) ?_
        refine V_istore_n X (lv' := [(1, _), (0, _), (2, _)]) (by decide) rfl dX2_points_31 ?_
        refine V_iinc X (lv' := [(2, _), (1, _), (0, _)]) (v := nI (i + 1)) rfl (nI_1 _) (by decide) rfl dX2_points_32 ?_
        refine V_goto X (tgt := 4) (by decide) dX2_points_35 ?_
        refine V.lvs (lv' := [(0, _), (1, _), (2, _)]) rfl ?_
        exact ih ((zL z (11, p)).length - (i + 1)) (by omega) (i + 1) rfl (by omega)
  refine V_iconst X (v := 0) (by decide) dX2_points_0 ?_
  refine V_istore_n X (lv' := [(1, _), (0, _)]) (by decide) rfl dX2_points_1 ?_
  refine V_iconst X (v := 0) (by decide) dX2_points_2 ?_
  refine V_istore_n X (lv' := [(2, _), (1, _), (0, _)]) (by decide) rfl dX2_points_3 ?_
  refine V.lvs (lv' := [(0, _), (1, _), (2, _)]) rfl ?_
  exact L _ 0 rfl (Nat.zero_le _)
theorem hinX2_meanPoints_X2 : ∀ w ∈ wsX20, w ∈ wsX2_meanPoints := by decide +kernel
set_option maxHeartbeats 4000000 in
set_option maxRecDepth 100000 in
theorem c_X2_meanPoints (l : Launch) (G : GG) (f : Wo) (al : Tg → Nat) (fi : Nat → Nat → Int32) (z : CZ) (hR : RC G al fi z f) (p : Nat) (hp : p < zN z 1) : Cp l yX2_meanPoints wsX2_meanPoints 10 182 G [.ref (al (1, p))] f (.int (mnC fi (zL z (11, p)))) := by
  refine Ct.of (cc := cX2_meanPoints) (maxL := 2) (ret := (some .int)) (by decide) rfl (Nat.le_of_ble_eq_true rfl) (lv := [(0, _)]) rfl (by simp [Value.category]) ?_
  intro K X hL hG hr hnm
  subst hL; subst hG
  have hL := (hR.cap (dl11 hp)).1
  have hL2 := (hR.cap (dl11 hp)).2
  refine V_aload_n X rfl dX2_meanPoints_0 ?_
  refine V_get X (T := TX2) (N := 5) (v := .ref _) 2 (hR.2.1 (1, p) (dm1 hp)) rfl hinX2_meanPoints_X2 (by decide) (by decide +kernel) (fun _ h9 => h9) (rfl) dX2_meanPoints_1 ?_
  refine V_csize X hR (rest := _) (11, p) (dl11 hp) gX2_meanPoints_Jx4a65c_size_8abf5 (Nat.le_of_ble_eq_true rfl) (Nat.le_of_ble_eq_true rfl) (Nat.le_of_ble_eq_true rfl) dX2_meanPoints_4 ?_
  refine V_istore_n X (lv' := [(1, _), (0, _)]) (by decide) rfl dX2_meanPoints_7 ?_
  refine V_iload_n X rfl dX2_meanPoints_8 ?_
  refine V_if_ne X (tgt := 16) (by decide) dX2_meanPoints_9 (fun hc9 => ?_) (fun hc9 => ?_)
  · refine V_aload_n X rfl dX2_meanPoints_16 ?_
    refine V_callVp X (rest := _) (c_X2_points _ _ _ al fi z hR p hp) (hR.2.1 (1, p) (dm1 hp)) rfl gX2_meanPoints_X2_points rfl hdv_X2_points (Nat.le_of_ble_eq_true rfl) (Nat.le_of_ble_eq_true rfl) rfl (Nat.le_of_ble_eq_true rfl) dX2_meanPoints_17 ?_
    refine V_iload_n X rfl dX2_meanPoints_20 ?_
    refine V_idiv X (hc9) dX2_meanPoints_21 ?_
    exact V_iret X hr (⟨congrArg (fun v => some (Value.int v)) (if_neg (fun e => hc9 (by rw [e]; rfl))).symm, rfl⟩) dX2_meanPoints_22
  · refine V_iconst X (v := 0) (by decide) dX2_meanPoints_12 ?_
    refine V_goto X (tgt := 22) (by decide) dX2_meanPoints_13 ?_
    exact V_iret X hr (⟨congrArg (fun v => some (Value.int v)) (if_pos ((nI_eq (b := 0) (by omega) (by omega)).mp hc9)).symm, rfl⟩) dX2_meanPoints_22
set_option maxHeartbeats 4000000 in
set_option maxRecDepth 100000 in
theorem c_X2_fitsAt (l : Launch) (G : GG) (f : Wo) (al : Tg → Nat) (fi : Nat → Nat → Int32) (z : CZ) (hR : RC G al fi z f) (p q : Nat) (hp : p < zN z 1) (hq : q < zN z 1) (m : Int32) : Cp l yX2_fitsAt wsX2_fitsAt 11 203 G [.ref (al (1, p)), .int m, .ref (al (1, q))] f (.int (bI (ftC fi z m p q))) := by
  refine Ct.of (cc := cX2_fitsAt) (maxL := 4) (ret := (some .boolean)) (by decide) rfl (Nat.le_of_ble_eq_true rfl) (lv := [(0, _), (1, _), (2, _)]) rfl (by simp [Value.category]) ?_
  intro K X hL hG hr hnm
  subst hL; subst hG
  refine V_aload_n X rfl dX2_fitsAt_0 ?_
  refine V_callVp X (rest := _) (c_X2_meanPoints _ _ _ al fi z hR p hp) (hR.2.1 (1, p) (dm1 hp)) rfl gX2_fitsAt_X2_meanPoints rfl hdv_X2_meanPoints (Nat.le_of_ble_eq_true rfl) (Nat.le_of_ble_eq_true rfl) rfl (Nat.le_of_ble_eq_true rfl) dX2_fitsAt_1 ?_
  refine V_aload_n X rfl dX2_fitsAt_4 ?_
  refine V_callVp X (rest := _) (c_X2_meanPoints _ _ _ al fi z hR q hq) (hR.2.1 (1, q) (dm1 hq)) rfl gX2_fitsAt_X2_meanPoints rfl hdv_X2_meanPoints (Nat.le_of_ble_eq_true rfl) (Nat.le_of_ble_eq_true rfl) rfl (Nat.le_of_ble_eq_true rfl) dX2_fitsAt_5 ?_
  refine V_isub X dX2_fitsAt_8 ?_
  refine V_abs X (by decide +kernel) (by decide +kernel) (by decide +kernel) (by decide +kernel) (Nat.le_of_ble_eq_true rfl) (Nat.le_of_ble_eq_true rfl) dX2_fitsAt_9 ?_
  refine V.top (y := dfC fi z p q) (rfl) ?_
  refine V_istore_n X (lv' := [(3, _), (0, _), (1, _), (2, _)]) (by decide) rfl dX2_fitsAt_12 ?_
  refine V_iload_n X rfl dX2_fitsAt_13 ?_
  refine V_aload_n X rfl dX2_fitsAt_14 ?_
  refine V_iload_n X rfl dX2_fitsAt_15 ?_
  refine V_callVp X (rest := _) (c_X2_windowAt _ _ _ al fi z hR p hp m) (hR.2.1 (1, p) (dm1 hp)) rfl gX2_fitsAt_X2_windowAt rfl hdv_X2_windowAt (Nat.le_of_ble_eq_true rfl) (Nat.le_of_ble_eq_true rfl) rfl (Nat.le_of_ble_eq_true rfl) dX2_fitsAt_16 ?_
  refine V_icmp_gt X (tgt := 35) (by decide) dX2_fitsAt_19 (fun hc19 => ?_) (fun hc19 => ?_)
  · refine V_iconst X (v := 0) (by decide) dX2_fitsAt_35 ?_
    exact V_zret X hr (by decide) (⟨bI_f (by unfold ftC; rw [decide_eq_false (p := dfC fi z p q ≤ wnC fi p m) (Int32.not_le.mpr hc19)]; rfl), rfl⟩) dX2_fitsAt_36
  · refine V_iload_n X rfl dX2_fitsAt_22 ?_
    refine V_aload_n X rfl dX2_fitsAt_23 ?_
    refine V_iload_n X rfl dX2_fitsAt_24 ?_
    refine V_callVp X (rest := _) (c_X2_windowAt _ _ _ al fi z hR q hq m) (hR.2.1 (1, q) (dm1 hq)) rfl gX2_fitsAt_X2_windowAt rfl hdv_X2_windowAt (Nat.le_of_ble_eq_true rfl) (Nat.le_of_ble_eq_true rfl) rfl (Nat.le_of_ble_eq_true rfl) dX2_fitsAt_25 ?_
    refine V_icmp_gt X (tgt := 35) (by decide) dX2_fitsAt_28 (fun hc28 => ?_) (fun hc28 => ?_)
    · refine V_iconst X (v := 0) (by decide) dX2_fitsAt_35 ?_
      exact V_zret X hr (by decide) (⟨bI_f (by unfold ftC; rw [decide_eq_false (p := dfC fi z p q ≤ wnC fi q m) (Int32.not_le.mpr hc28)]; exact Bool.and_false _), rfl⟩) dX2_fitsAt_36
    · refine V_iconst X (v := 1) (by decide) dX2_fitsAt_31 ?_
      refine V_goto X (tgt := 36) (by decide) dX2_fitsAt_32 ?_
      exact V_zret X hr (by decide) (⟨bI_t (by unfold ftC; rw [decide_eq_true (p := dfC fi z p q ≤ wnC fi p m) (Int32.not_lt.mp hc19), decide_eq_true (p := dfC fi z p q ≤ wnC fi q m) (Int32.not_lt.mp hc28)]; rfl), rfl⟩) dX2_fitsAt_36
def sndF (fi : Nat → Nat → Int32) (x : Int32) (xs : List Nat) : Nat → Nat → Int32 := va_up fi 7 (fun p => if p ∈ xs then x else fi 7 p)
theorem sndF_0 (fi : Nat → Nat → Int32) (x : Int32) : sndF fi x [] = fi := by
  unfold sndF
  rw [show (fun p => if p ∈ ([] : List Nat) then x else fi 7 p) = fi 7 from funext fun p => if_neg (by simp)]
  exact va_up_id fi 7
theorem sndF_1 (fi : Nat → Nat → Int32) (x : Int32) (xs : List Nat) (j : Nat) : fu (sndF fi x xs) 7 j x = sndF fi x (xs ++ [j]) := by
  unfold fu sndF
  rw [va_up_self, va_up_up]
  congr 1
  funext p
  by_cases h : p = j
  · subst h; rw [va_up_self, if_pos (by simp)]
  · rw [va_up_ne _ _ h]
    by_cases h2 : p ∈ xs
    · rw [if_pos h2, if_pos (by simp [h2])]
    · rw [if_neg h2, if_neg (by simp [h, h2])]
theorem take_1 {xs : List Nat} {i j : Nat} (h : xs[i]? = some j) : xs.take (i + 1) = xs.take i ++ [j] := by rw [List.take_add_one, h]; rfl
def taF (fi : Nat → Nat → Int32) (m : Nat) (pl : Int32) : Nat → Nat → Int32 := let w := fi 14 m &&& ((1 <<< (pl &&& 31)) ^^^ (-1)); if w = 0 then fu (fu fi 14 m w) 13 m 1 else fu fi 14 m w
theorem hinX1_sendParties_X1 : ∀ w ∈ wsX10, w ∈ wsX1_sendParties := by decide +kernel
theorem hinX1_sendParties_X2 : ∀ w ∈ wsX20, w ∈ wsX1_sendParties := by decide +kernel
set_option maxHeartbeats 4000000 in
set_option maxRecDepth 100000 in
theorem c_X1_sendParties (l : Launch) (G : GG) (f : Wo) (al : Tg → Nat) (fi : Nat → Nat → Int32) (z : CZ) (hR : RC G al fi z f) (m : Nat) (hm : m < zN z 2) (x : Int32) : Ct l yX1_sendParties wsX1_sendParties 9 160 G [.ref (al (2, m)), .int x] f (fun v9 f' => v9 = none ∧ RC G al (sndF fi x (zL z (12, m))) (z) f' ∧ FrC f f') 0 0 := by
  refine Ct.of (cc := cX1_sendParties) (maxL := 3) (ret := none) (by decide) rfl (Nat.le_of_ble_eq_true rfl) (lv := [(0, _), (1, _)]) rfl (by simp [Value.category]) ?_
  intro K X hL hG hr hnm
  subst hL; subst hG
  have hF : FrC f f := FrC.rf
  have hL := (hR.cap (dl12 hm)).1
  have hL2 := (hR.cap (dl12 hm)).2
  have L : ∀ (n i : Nat), (zL z (12, m)).length - i = n → i ≤ (zL z (12, m)).length → ∀ f1 : Wo, RC (kG K) al (sndF fi x ((zL z (12, m)).take i)) z f1 → FrC f f1 → V K f1 0 0 2 [(0, .ref (al (2, m))), (1, .int x), (2, .int (nI i))] [] := by
    intro n
    induction n using Nat.strongRecOn with
    | ind n ih =>
      intro i hn hi f1 hR hF
      refine V_iload_n X rfl dX1_sendParties_2 ?_
      refine V_aload_n X rfl dX1_sendParties_3 ?_
      refine V_get X (T := TX1) (N := 7) (v := .ref _) 4 (hR.2.1 (2, m) (dm2 hm)) rfl hinX1_sendParties_X1 (by decide) (by decide +kernel) (fun _ h9 => h9) (rfl) dX1_sendParties_4 ?_
      refine V_csize X hR (rest := _) (12, m) (dl12 hm) gX1_sendParties_Jx4a65c_size_8abf5 (Nat.le_of_ble_eq_true rfl) (Nat.le_of_ble_eq_true rfl) (Nat.le_of_ble_eq_true rfl) dX1_sendParties_7 ?_
      refine V_icmp_ge X (tgt := 34) (by decide) dX1_sendParties_10 (fun hc10 => ?_) (fun hc10 => ?_)
      · have hiN := lim_ge (N := (zL z (12, m)).length) rfl hc10 hi (by omega)
        rw [hiN, List.take_length] at hR
        exact V_vret X hr (⟨rfl, hR, hF⟩) dX1_sendParties_34
      · have hlt := lim_lt (N := (zL z (12, m)).length) rfl hc10 hi (by omega)
        obtain ⟨j, hj⟩ : ∃ j, (zL z (12, m))[i]? = some j := ⟨_, List.getElem?_eq_getElem hlt⟩
        have hj1 : j < zN z 1 := hR.el (dl12 hm) hj
        refine V_aload_n X rfl dX1_sendParties_13 ?_
        refine V_get X (T := TX1) (N := 7) (v := .ref _) 4 (hR.2.1 (2, m) (dm2 hm)) rfl hinX1_sendParties_X1 (by decide) (by decide +kernel) (fun _ h9 => h9) (rfl) dX1_sendParties_14 ?_
        refine V_iload_n X rfl dX1_sendParties_17 ?_
        refine V_cnth X hR (rest := _) (12, m) (dl12 hm) (i) (j) (hj) gX1_sendParties_Jx4a65c_get_915e3 (Nat.le_of_ble_eq_true rfl) (Nat.le_of_ble_eq_true rfl) (Nat.le_of_ble_eq_true rfl) dX1_sendParties_18 ?_
        refine V_cast X (hR.2.1 (1, j) (dm1 hj1)) rfl (by decide +kernel) dX1_sendParties_21 ?_
        refine V_iload_n X rfl dX1_sendParties_24 ?_
        refine V_cput X hR hF (T := TX2) (N := 5) 7 j 3 (dm1 hj1) rfl hinX1_sendParties_X2 tyX2_ok nmX2 (by decide) (by decide +kernel) (fun _ h9 => h9) rfl rfl (Nat.le_of_ble_eq_true rfl) (fst_7 _ _ _ _ _) dX1_sendParties_25 (fun f hR hF => ?_)
        refine V_iinc X (lv' := [(2, _), (0, _), (1, _)]) (v := nI (i + 1)) rfl (nI_1 _) (by decide) rfl dX1_sendParties_28 ?_
        refine V_goto X (tgt := 2) (by decide) dX1_sendParties_31 ?_
        refine V.lvs (lv' := [(0, _), (1, _), (2, _)]) rfl ?_
        exact ih ((zL z (12, m)).length - (i + 1)) (by omega) (i + 1) rfl (by omega) _ (by rw [take_1 hj, ← sndF_1]; exact hR) hF
  refine V_iconst X (v := 0) (by decide) dX1_sendParties_0 ?_
  refine V_istore_n X (lv' := [(2, _), (0, _), (1, _)]) (by decide) rfl dX1_sendParties_1 ?_
  refine V.lvs (lv' := [(0, _), (1, _), (2, _)]) rfl ?_
  exact L _ 0 rfl (Nat.zero_le _) _ (by rw [List.take_zero, sndF_0]; exact hR) FrC.rf
theorem hinX1_callOff_X1 : ∀ w ∈ wsX10, w ∈ wsX1_callOff := by decide +kernel
set_option maxHeartbeats 4000000 in
set_option maxRecDepth 100000 in
theorem c_X1_callOff (l : Launch) (G : GG) (f : Wo) (al : Tg → Nat) (fi : Nat → Nat → Int32) (z : CZ) (hR : RC G al fi z f) (m : Nat) (hm : m < zN z 2) : Ct l yX1_callOff wsX1_callOff 10 182 G [.ref (al (2, m))] f (fun v9 f' => v9 = none ∧ RC G al (sndF (fu fi 13 m 2) 1 (zL z (12, m))) (z) f' ∧ FrC f f') 0 0 := by
  refine Ct.of (cc := cX1_callOff) (maxL := 1) (ret := none) (by decide) rfl (Nat.le_of_ble_eq_true rfl) (lv := [(0, _)]) rfl (by simp [Value.category]) ?_
  intro K X hL hG hr hnm
  subst hL; subst hG
  have hF : FrC f f := FrC.rf
  refine V_aload_n X rfl dX1_callOff_0 ?_
  refine V_iconst X (v := 2) (by decide) dX1_callOff_1 ?_
  refine V_cput X hR hF (T := TX1) (N := 7) 13 m 5 (dm2 hm) rfl hinX1_callOff_X1 tyX1_ok nmX1 (by decide) (by decide +kernel) (fun _ h9 => h9) rfl rfl (Nat.le_of_ble_eq_true rfl) (fst_13 _ _ _ _ _) dX1_callOff_2 (fun f hR hF => ?_)
  refine V_aload_n X rfl dX1_callOff_5 ?_
  refine V_iconst X (v := 1) (by decide) dX1_callOff_6 ?_
  refine V_callV (kc' := 0) (ks' := 0) X (rest := _) (c_X1_sendParties _ _ _ al (fu fi 13 m 2) z hR m hm 1) (hR.2.1 (2, m) (dm2 hm)) rfl gX1_callOff_X1_sendParties rfl hdv_X1_sendParties (Nat.le_of_ble_eq_true rfl) (Nat.le_of_ble_eq_true rfl) rfl (Nat.le_of_ble_eq_true rfl) (by omega) (by omega) dX1_callOff_7 (fun r f1 hq => ?_)
  obtain ⟨rfl, hR, hF1⟩ := hq
  have hF := hF.trans hF1
  exact V_vret X hr (⟨rfl, hR, hF⟩) dX1_callOff_10
theorem hinX1_end_X1 : ∀ w ∈ wsX10, w ∈ wsX1_end := by decide +kernel
set_option maxHeartbeats 4000000 in
set_option maxRecDepth 100000 in
theorem c_X1_end (l : Launch) (G : GG) (f : Wo) (al : Tg → Nat) (fi : Nat → Nat → Int32) (z : CZ) (hR : RC G al fi z f) (m : Nat) (hm : m < zN z 2) : Ct l yX1_end wsX1_end 10 182 G [.ref (al (2, m))] f (fun v9 f' => v9 = none ∧ RC G al (sndF (fu fi 13 m 3) 0 (zL z (12, m))) (z) f' ∧ FrC f f') 0 0 := by
  refine Ct.of (cc := cX1_end) (maxL := 1) (ret := none) (by decide) rfl (Nat.le_of_ble_eq_true rfl) (lv := [(0, _)]) rfl (by simp [Value.category]) ?_
  intro K X hL hG hr hnm
  subst hL; subst hG
  have hF : FrC f f := FrC.rf
  refine V_aload_n X rfl dX1_end_0 ?_
  refine V_iconst X (v := 3) (by decide) dX1_end_1 ?_
  refine V_cput X hR hF (T := TX1) (N := 7) 13 m 5 (dm2 hm) rfl hinX1_end_X1 tyX1_ok nmX1 (by decide) (by decide +kernel) (fun _ h9 => h9) rfl rfl (Nat.le_of_ble_eq_true rfl) (fst_13 _ _ _ _ _) dX1_end_2 (fun f hR hF => ?_)
  refine V_aload_n X rfl dX1_end_5 ?_
  refine V_iconst X (v := 0) (by decide) dX1_end_6 ?_
  refine V_callV (kc' := 0) (ks' := 0) X (rest := _) (c_X1_sendParties _ _ _ al (fu fi 13 m 3) z hR m hm 0) (hR.2.1 (2, m) (dm2 hm)) rfl gX1_end_X1_sendParties rfl hdv_X1_sendParties (Nat.le_of_ble_eq_true rfl) (Nat.le_of_ble_eq_true rfl) rfl (Nat.le_of_ble_eq_true rfl) (by omega) (by omega) dX1_end_7 (fun r f1 hq => ?_)
  obtain ⟨rfl, hR, hF1⟩ := hq
  have hF := hF.trans hF1
  exact V_vret X hr (⟨rfl, hR, hF⟩) dX1_end_10
theorem hinX1_takeAnswer_X1 : ∀ w ∈ wsX10, w ∈ wsX1_takeAnswer := by decide +kernel
set_option maxHeartbeats 4000000 in
set_option maxRecDepth 100000 in
theorem c_X1_takeAnswer (l : Launch) (G : GG) (f : Wo) (al : Tg → Nat) (fi : Nat → Nat → Int32) (z : CZ) (hR : RC G al fi z f) (m : Nat) (hm : m < zN z 2) (pl : Int32) : Ct l yX1_takeAnswer wsX1_takeAnswer 1 44 G [.ref (al (2, m)), .int pl] f (fun v9 f' => v9 = none ∧ RC G al (taF fi m pl) (z) f' ∧ FrC f f') 0 0 := by
  refine Ct.of (cc := cX1_takeAnswer) (maxL := 2) (ret := none) (by decide) rfl (Nat.le_of_ble_eq_true rfl) (lv := [(0, _), (1, _)]) rfl (by simp [Value.category]) ?_
  intro K X hL hG hr hnm
  subst hL; subst hG
  have hF : FrC f f := FrC.rf
  refine V_aload_n X rfl dX1_takeAnswer_0 ?_
  refine V_dup X rfl dX1_takeAnswer_1 ?_
  refine V_get X (T := TX1) (N := 7) (v := .int _) 6 (hR.2.1 (2, m) (dm2 hm)) rfl hinX1_takeAnswer_X1 (by decide) (by decide +kernel) (fun _ h9 => h9) (rfl) dX1_takeAnswer_2 ?_
  refine V_iconst X (v := 1) (by decide) dX1_takeAnswer_5 ?_
  refine V_iload_n X rfl dX1_takeAnswer_6 ?_
  refine V_ishl X dX1_takeAnswer_7 ?_
  refine V_iconst X (v := (-1)) (by decide) dX1_takeAnswer_8 ?_
  refine V_ixor X dX1_takeAnswer_9 ?_
  refine V_iand X dX1_takeAnswer_10 ?_
  refine V_cput X hR hF (T := TX1) (N := 7) 14 m 6 (dm2 hm) rfl hinX1_takeAnswer_X1 tyX1_ok nmX1 (by decide) (by decide +kernel) (fun _ h9 => h9) rfl rfl (Nat.le_of_ble_eq_true rfl) (fst_14 _ _ _ _ _) dX1_takeAnswer_11 (fun f hR hF => ?_)
  refine V_aload_n X rfl dX1_takeAnswer_14 ?_
  refine V_get X (T := TX1) (N := 7) (v := .int _) 6 (hR.2.1 (2, m) (dm2 hm)) rfl hinX1_takeAnswer_X1 (by decide) (by decide +kernel) (fun _ h9 => h9) (rfl) dX1_takeAnswer_15 ?_
  refine V.top (y := fi 14 m &&& ((1 <<< (pl &&& 31)) ^^^ (-1))) (fu_self _ _ _ _) ?_
  refine V_if_ne X (tgt := 26) (by decide) dX1_takeAnswer_18 (fun hc18 => ?_) (fun hc18 => ?_)
  · exact V_vret X hr (⟨rfl, (by unfold taF; dsimp only; rw [if_neg hc18]; exact hR), hF⟩) dX1_takeAnswer_26
  · refine V_aload_n X rfl dX1_takeAnswer_21 ?_
    refine V_iconst X (v := 1) (by decide) dX1_takeAnswer_22 ?_
    refine V_cput X hR hF (T := TX1) (N := 7) 13 m 5 (dm2 hm) rfl hinX1_takeAnswer_X1 tyX1_ok nmX1 (by decide) (by decide +kernel) (fun _ h9 => h9) rfl rfl (Nat.le_of_ble_eq_true rfl) (fst_13 _ _ _ _ _) dX1_takeAnswer_23 (fun f hR hF => ?_)
    exact V_vret X hr (⟨rfl, (by unfold taF; dsimp only; rw [if_pos hc18]; exact hR), hF⟩) dX1_takeAnswer_26
theorem hinX1_awaits_X1 : ∀ w ∈ wsX10, w ∈ wsX1_awaits := by decide +kernel
set_option maxHeartbeats 4000000 in
set_option maxRecDepth 100000 in
theorem c_X1_awaits (l : Launch) (G : GG) (f : Wo) (al : Tg → Nat) (fi : Nat → Nat → Int32) (z : CZ) (hR : RC G al fi z f) (m : Nat) (hm : m < zN z 2) (pl : Int32) : Cp l yX1_awaits wsX1_awaits 2 66 G [.ref (al (2, m)), .int pl] f (.int (bI (decide (fi 13 m = 0) && hsI (fi 14 m) pl))) := by
  refine Ct.of (cc := cX1_awaits) (maxL := 2) (ret := (some .boolean)) (by decide) rfl (Nat.le_of_ble_eq_true rfl) (lv := [(0, _), (1, _)]) rfl (by simp [Value.category]) ?_
  intro K X hL hG hr hnm
  subst hL; subst hG
  refine V_aload_n X rfl dX1_awaits_0 ?_
  refine V_get X (T := TX1) (N := 7) (v := .int _) 5 (hR.2.1 (2, m) (dm2 hm)) rfl hinX1_awaits_X1 (by decide) (by decide +kernel) (fun _ h9 => h9) (rfl) dX1_awaits_1 ?_
  refine V_if_ne X (tgt := 22) (by decide) dX1_awaits_4 (fun hc4 => ?_) (fun hc4 => ?_)
  · refine V_iconst X (v := 0) (by decide) dX1_awaits_22 ?_
    exact V_zret X hr (by decide) (⟨bI_f (by rw [decide_eq_false hc4]; rfl), rfl⟩) dX1_awaits_23
  · refine V_aload_n X rfl dX1_awaits_7 ?_
    refine V_get X (T := TX1) (N := 7) (v := .int _) 6 (hR.2.1 (2, m) (dm2 hm)) rfl hinX1_awaits_X1 (by decide) (by decide +kernel) (fun _ h9 => h9) (rfl) dX1_awaits_8 ?_
    refine V_iload_n X rfl dX1_awaits_11 ?_
    refine V_callSN (kc' := 0) (ks' := 0) X (rest := _) (c_X5_has _ _ _ (fi 14 m) pl) gX1_awaits_X5_has_n46 rfl (by decide +kernel) X.kk.2.2.2.2.2.2.2.2.2.1 (by decide +kernel) hds_X5_has (Nat.le_of_ble_eq_true rfl) (Nat.le_of_ble_eq_true rfl) rfl (Nat.le_of_ble_eq_true rfl) (by omega) (by omega) dX1_awaits_12 (fun r f1 hq => ?_)
    obtain ⟨rfl, rfl⟩ := hq
    refine V_if_eq X (tgt := 22) (by decide) dX1_awaits_15 (fun hc15 => ?_) (fun hc15 => ?_)
    · refine V_iconst X (v := 0) (by decide) dX1_awaits_22 ?_
      exact V_zret X hr (by decide) (⟨bI_f (by rw [bI_eq0 hc15]; exact Bool.and_false _), rfl⟩) dX1_awaits_23
    · refine V_iconst X (v := 1) (by decide) dX1_awaits_18 ?_
      refine V_goto X (tgt := 23) (by decide) dX1_awaits_19 ?_
      exact V_zret X hr (by decide) (⟨bI_t (by rw [decide_eq_true hc4, bI_ne0 hc15]; rfl), rfl⟩) dX1_awaits_23
def rcT (r : Int32) (i : Nat) : Int32 := if r &&& (nI (i + 1) ^^^ (-1)) = 0 then 1 <<< ((4 * nI (i + 1)) &&& 31) else 0
def rcI (r : Int32) : Int32 := sumI (rcT r) 6
def sfT (c t : Int32) (i : Nat) : Bool := decide ((c >>> ((4 * nI (i + 1)) &&& 31)) &&& 15 ≤ t * bcI (nI (i + 1)))
def sfB (c t : Int32) : Bool := (List.range 6).all (sfT c t)
theorem sfB_t {c t : Int32} (h : ∀ j, j < 6 → sfT c t j = true) : sfB c t = true := List.all_eq_true.mpr fun j hj => h j (List.mem_range.mp hj)
theorem sfB_f {c t : Int32} {j : Nat} (hj : j < 6) (h : sfT c t j = false) : sfB c t = false := by
  cases hb : sfB c t with
  | false => rfl
  | true => exact absurd (List.all_eq_true.mp hb j (List.mem_range.mpr hj)) (by rw [h]; decide)
set_option maxHeartbeats 4000000 in
set_option maxRecDepth 100000 in
theorem c_X4_of (l : Launch) (G : GG) (f : Wo) (r : Int32) : Cp l yX4_of wsX4_of 1 44 G [.int r] f (.int (rcI r)) := by
  refine Ct.of (cc := cX4_of) (maxL := 3) (ret := (some .int)) (by decide) rfl (Nat.le_of_ble_eq_true rfl) (lv := [(0, _)]) rfl (by simp [Value.category]) ?_
  intro K X hL hG hr hnm
  subst hL; subst hG
  have L : ∀ (n i : Nat), 6 - i = n → i ≤ 6 → V K f 0 0 4 [(0, .int r), (1, .int (sumI (rcT r) i)), (2, .int (nI (i + 1)))] [] := by
    intro n
    induction n using Nat.strongRecOn with
    | ind n ih =>
      intro i hn hi
      refine V_iload_n X rfl dX4_of_4 ?_
      refine V_bipush X (v := 7) (by decide) dX4_of_5 ?_
      refine V_icmp_ge X (tgt := 32) (by decide) dX4_of_7 (fun hc7 => ?_) (fun hc7 => ?_)
      · have hi6 := lim_ge (i := i + 1) (N := 7) rfl hc7 (by omega) (by decide)
        refine V_iload_n X rfl dX4_of_32 ?_
        exact V_iret X hr (⟨by rw [show i = 6 by omega]; rfl, rfl⟩) dX4_of_33
      · have hlt := lim_lt (i := i + 1) (N := 7) rfl hc7 (by omega) (by decide)
        refine V_iload_n X rfl dX4_of_10 ?_
        refine V_iload_n X rfl dX4_of_11 ?_
        refine V_iconst X (v := (-1)) (by decide) dX4_of_12 ?_
        refine V_ixor X dX4_of_13 ?_
        refine V_iand X dX4_of_14 ?_
        refine V_if_ne X (tgt := 26) (by decide) dX4_of_15 (fun hc15 => ?_) (fun hc15 => ?_)
        · refine V_iinc X (lv' := [(2, _), (0, _), (1, _)]) (v := nI ((i + 1) + 1)) rfl (nI_1 _) (by decide) rfl dX4_of_26 ?_
          refine V_goto X (tgt := 4) (by decide) dX4_of_29 ?_
          refine V.lvs (lv' := [(0, _), (1, _), (2, _)]) rfl ?_
          rw [show sumI (rcT r) i = sumI (rcT r) (i + 1) by show _ = sumI (rcT r) i + rcT r i; rw [rcT, if_neg hc15, Int32.add_zero]]
          exact ih (6 - (i + 1)) (by omega) (i + 1) rfl (by omega)
        · refine V_iload_n X rfl dX4_of_18 ?_
          refine V_iconst X (v := 1) (by decide) dX4_of_19 ?_
          refine V_iconst X (v := 4) (by decide) dX4_of_20 ?_
          refine V_iload_n X rfl dX4_of_21 ?_
          refine V_imul X dX4_of_22 ?_
          refine V_ishl X dX4_of_23 ?_
          refine V_iadd X dX4_of_24 ?_
          refine V.top (y := sumI (rcT r) (i + 1)) (congrArg (sumI (rcT r) i + ·) (if_pos hc15).symm) ?_
          refine V_istore_n X (lv' := [(1, _), (0, _), (2, _)]) (by decide) rfl dX4_of_25 ?_
          refine V_iinc X (lv' := [(2, _), (1, _), (0, _)]) (v := nI ((i + 1) + 1)) rfl (nI_1 _) (by decide) rfl dX4_of_26 ?_
          refine V_goto X (tgt := 4) (by decide) dX4_of_29 ?_
          refine V.lvs (lv' := [(0, _), (1, _), (2, _)]) rfl ?_
          exact ih (6 - (i + 1)) (by omega) (i + 1) rfl (by omega)
  refine V_iconst X (v := 0) (by decide) dX4_of_0 ?_
  refine V_istore_n X (lv' := [(1, _), (0, _)]) (by decide) rfl dX4_of_1 ?_
  refine V_iconst X (v := 1) (by decide) dX4_of_2 ?_
  refine V_istore_n X (lv' := [(2, _), (1, _), (0, _)]) (by decide) rfl dX4_of_3 ?_
  refine V.lvs (lv' := [(0, _), (1, _), (2, _)]) rfl ?_
  exact L 6 0 rfl (by omega)
set_option maxHeartbeats 4000000 in
set_option maxRecDepth 100000 in
theorem c_X4_suffice (l : Launch) (G : GG) (f : Wo) (c t : Int32) : Cp l yX4_suffice wsX4_suffice 2 64 G [.int c, .int t] f (.int (bI (sfB c t))) := by
  refine Ct.of (cc := cX4_suffice) (maxL := 3) (ret := (some .boolean)) (by decide) rfl (Nat.le_of_ble_eq_true rfl) (lv := [(0, _), (1, _)]) rfl (by simp [Value.category]) ?_
  intro K X hL hG hr hnm
  subst hL; subst hG
  have L : ∀ (n i : Nat), 6 - i = n → i ≤ 6 → (∀ j, j < i → sfT c t j = true) → V K f 0 0 2 [(0, .int c), (1, .int t), (2, .int (nI (i + 1)))] [] := by
    intro n
    induction n using Nat.strongRecOn with
    | ind n ih =>
      intro i hn hi ha
      refine V_iload_n X rfl dX4_suffice_2 ?_
      refine V_bipush X (v := 7) (by decide) dX4_suffice_3 ?_
      refine V_icmp_ge X (tgt := 33) (by decide) dX4_suffice_5 (fun hc5 => ?_) (fun hc5 => ?_)
      · have hi6 := lim_ge (i := i + 1) (N := 7) rfl hc5 (by omega) (by decide)
        refine V_iconst X (v := 1) (by decide) dX4_suffice_33 ?_
        exact V_zret X hr (by decide) (⟨bI_t (sfB_t fun j hj => ha j (by omega)), rfl⟩) dX4_suffice_34
      · have hlt := lim_lt (i := i + 1) (N := 7) rfl hc5 (by omega) (by decide)
        refine V_iload_n X rfl dX4_suffice_8 ?_
        refine V_iconst X (v := 4) (by decide) dX4_suffice_9 ?_
        refine V_iload_n X rfl dX4_suffice_10 ?_
        refine V_imul X dX4_suffice_11 ?_
        refine V_ishr X dX4_suffice_12 ?_
        refine V_bipush X (v := 15) (by decide) dX4_suffice_13 ?_
        refine V_iand X dX4_suffice_15 ?_
        refine V_iload_n X rfl dX4_suffice_16 ?_
        refine V_iload_n X rfl dX4_suffice_17 ?_
        refine V_callSp X (rest := _) (c_J6_bitCount_0f7a4 _ _ _ _) gX4_suffice_J6_bitCount_0f7a4 rfl hds_J6_bitCount_0f7a4 (Nat.le_of_ble_eq_true rfl) (Nat.le_of_ble_eq_true rfl) rfl (Nat.le_of_ble_eq_true rfl) dX4_suffice_18 ?_
        refine V_imul X dX4_suffice_21 ?_
        refine V_icmp_le X (tgt := 27) (by decide) dX4_suffice_22 (fun hc22 => ?_) (fun hc22 => ?_)
        · refine V_iinc X (lv' := [(2, _), (0, _), (1, _)]) (v := nI ((i + 1) + 1)) rfl (nI_1 _) (by decide) rfl dX4_suffice_27 ?_
          refine V_goto X (tgt := 2) (by decide) dX4_suffice_30 ?_
          refine V.lvs (lv' := [(0, _), (1, _), (2, _)]) rfl ?_
          exact ih (6 - (i + 1)) (by omega) (i + 1) rfl (by omega) (fun j hj => by
        by_cases hji : j = i
        · subst hji; exact decide_eq_true hc22
        · exact ha j (by omega))
        · refine V_iconst X (v := 0) (by decide) dX4_suffice_25 ?_
          exact V_zret X hr (by decide) (⟨bI_f (sfB_f (j := i) (by omega) (decide_eq_false hc22)), rfl⟩) dX4_suffice_26
  refine V_iconst X (v := 1) (by decide) dX4_suffice_0 ?_
  refine V_istore_n X (lv' := [(2, _), (0, _), (1, _)]) (by decide) rfl dX4_suffice_1 ?_
  refine V.lvs (lv' := [(0, _), (1, _), (2, _)]) rfl ?_
  exact L 6 0 rfl (by omega) (fun j hj => absurd hj (by omega))
