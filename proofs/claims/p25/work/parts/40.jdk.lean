/-! ===== the lists of the library ===== -/
/-- a list's cells: a: the list, d: its array -/
def ALx (G : GG) (f : Wo) (a : Nat) (t : Tg) (md : Int32) (d : Nat) (g : Nat → Option Nat) (cap : Nat) (xs : List Nat) : Prop := f a = some (t, oO 0 [.int md, .ref d, .int (nI xs.length)]) ∧ f d = some (if cap = 0 then (99, 0) else (20, a), oQ G cap g) ∧ (cap = 0 ↔ d = gE G) ∧ xs.length ≤ cap ∧ (∀ i x, xs[i]? = some x → g i = some x)
def AL (G : GG) (f : Wo) (a : Nat) (t : Tg) (cap : Nat) (xs : List Nat) : Prop := ∃ md d g, ALx G f a t md d g cap xs
def FrL (a : Nat) (f f' : Wo) : Prop := ∀ b x, f b = some x → b ≠ a → x.1 ≠ (20, a) → f' b = some x
theorem FrL.rf {a : Nat} {f : Wo} : FrL a f f := fun _ _ h _ _ => h
theorem FrL.trans {a : Nat} {f f1 f2 : Wo} (h : FrL a f f1) (h2 : FrL a f1 f2) : FrL a f f2 := fun b x e n t => h2 b x (h b x e n t) n t
theorem FrL.put {a : Nat} {f : Wo} {t : Tg} {e : va_E} : FrL a f (w_up f a t e) := fun _ _ h n _ => (w_up_ne _ _ _ n).trans h
theorem FrL.new {a q : Nat} {f : Wo} {t : Tg} {e : va_E} (h : f q = none) : FrL a f (w_up f q t e) := fun _ _ h1 _ _ => (w_up_ne _ _ _ (w_neN h1 h)).trans h1
theorem FrL.dat {a d : Nat} {f : Wo} {e e' : va_E} (h : f d = some ((20, a), e')) : FrL a f (w_up f d (20, a) e) := fun _ _ h1 _ n => (w_up_ne _ _ _ (fun z => by subst z; rw [h] at h1; exact n (by cases h1; rfl))).trans h1
/-- what an element is -/
def EL (f : Wo) (C : String) (xs : List Nat) : Prop := ∀ x ∈ xs, ∃ (t : Tg) (ci : Nat) (vs : List Value) (T : u_T) (N : Nat), f x = some (t, .inr (ci, vs)) ∧ vwCl[ci]? = some (C, T, N) ∧ t.1 ≠ 20
def ncap (cap : Nat) : Nat := if cap = 0 then 10 else cap + max 1 (cap / 2)
def adC (cap n : Nat) : Nat := if n < cap then 0 else 1
def adS (cap n : Nat) : Nat := if n < cap then 0 else ncap cap
def cap2 (cap n : Nat) : Nat := if n < cap then cap else ncap cap
theorem vv1 (x : Nat) : va_rf (some x) = .ref x := rfl
set_option maxHeartbeats 4000000 in
set_option maxRecDepth 100000 in
theorem c_J3_checkIndex_8e157 (l : Launch) (G : GG) (f : Wo) (i n : Int32) (h0 : ¬ i < 0) (h1 : i < n) : Cp l yJ3_checkIndex_8e157 wsJ3_checkIndex_8e157 6 96 G [.int i, .int n, .null] f (.int i) := by
  refine Ct.of (cc := cJ3_checkIndex_8e157) (maxL := 3) (ret := (some .int)) (by decide) rfl (Nat.le_of_ble_eq_true rfl) (lv := [(0, _), (1, _), (2, _)]) rfl (by simp [Value.category]) ?_
  intro K X hL hG hr hnm
  subst hL; subst hG
  refine V_iload_n X rfl dJ3_checkIndex_8e157_0 ?_
  refine V_if_lt X (tgt := 9) (by decide) dJ3_checkIndex_8e157_1 (fun hc1 => absurd hc1 (h0)) (fun hc1 => ?_)
  refine V_iload_n X rfl dJ3_checkIndex_8e157_4 ?_
  refine V_iload_n X rfl dJ3_checkIndex_8e157_5 ?_
  refine V_icmp_lt X (tgt := 16) (by decide) dJ3_checkIndex_8e157_6 (fun hc6 => ?_) (fun hc6 => ?_)
  · refine V_iload_n X rfl dJ3_checkIndex_8e157_16 ?_
    exact V_iret X hr (⟨rfl, rfl⟩) dJ3_checkIndex_8e157_17
  · exact absurd h1 hc6
set_option maxHeartbeats 4000000 in
set_option maxRecDepth 100000 in
theorem c_J15_checkIndex_7cf53 (l : Launch) (G : GG) (f : Wo) (i n : Int32) (h0 : ¬ i < 0) (h1 : i < n) : Cp l yJ15_checkIndex_7cf53 wsJ15_checkIndex_7cf53 7 118 G [.int i, .int n] f (.int i) := by
  refine Ct.of (cc := cJ15_checkIndex_7cf53) (maxL := 2) (ret := (some .int)) (by decide) rfl (Nat.le_of_ble_eq_true rfl) (lv := [(0, _), (1, _)]) rfl (by simp [Value.category]) ?_
  intro K X hL hG hr hnm
  subst hL; subst hG
  refine V_iload_n X rfl dJ15_checkIndex_7cf53_0 ?_
  refine V_iload_n X rfl dJ15_checkIndex_7cf53_1 ?_
  refine V_null X dJ15_checkIndex_7cf53_2 ?_
  refine V_callSp X (rest := _) (c_J3_checkIndex_8e157 _ _ _ _ _ h0 h1) gJ15_checkIndex_7cf53_J3_checkIndex_8e157 rfl hds_J3_checkIndex_8e157 (Nat.le_of_ble_eq_true rfl) (Nat.le_of_ble_eq_true rfl) rfl (Nat.le_of_ble_eq_true rfl) dJ15_checkIndex_7cf53_3 ?_
  exact V_iret X hr (⟨rfl, rfl⟩) dJ15_checkIndex_7cf53_6
theorem hinJx4a65c_size_8abf5_Jx4a65c : ∀ w ∈ wsJx4a65c0, w ∈ wsJx4a65c_size_8abf5 := by decide +kernel
set_option maxHeartbeats 4000000 in
set_option maxRecDepth 100000 in
theorem c_Jx4a65c_size_8abf5 (l : Launch) (G : GG) (f : Wo) (a : Nat) (t : Tg) (cap : Nat) (xs : List Nat) (hA : AL G f a t cap xs) : Cp l yJx4a65c_size_8abf5 wsJx4a65c_size_8abf5 1 44 G [.ref a] f (.int (nI xs.length)) := by
  refine Ct.of (cc := cJx4a65c_size_8abf5) (maxL := 1) (ret := (some .int)) (by decide) rfl (Nat.le_of_ble_eq_true rfl) (lv := [(0, _)]) rfl (by simp [Value.category]) ?_
  intro K X hL hG hr hnm
  subst hL; subst hG
  obtain ⟨md, d, g, ha, hd, hE, hl, hg⟩ := hA
  refine V_aload_n X rfl dJx4a65c_size_8abf5_0 ?_
  refine V_get X (T := TJx4a65c) (N := 3) 2 (ha) rfl hinJx4a65c_size_8abf5_Jx4a65c (by decide) (by decide +kernel) (fun _ h9 => h9) rfl dJx4a65c_size_8abf5_1 ?_
  exact V_iret X hr (⟨rfl, rfl⟩) dJx4a65c_size_8abf5_4
theorem hinJx4a65c_isEmpty_aae02_Jx4a65c : ∀ w ∈ wsJx4a65c0, w ∈ wsJx4a65c_isEmpty_aae02 := by decide +kernel
set_option maxHeartbeats 4000000 in
set_option maxRecDepth 100000 in
theorem c_Jx4a65c_isEmpty_aae02 (l : Launch) (G : GG) (f : Wo) (a : Nat) (t : Tg) (cap : Nat) (xs : List Nat) (hA : AL G f a t cap xs) (hc : cap ≤ 100000) : Cp l yJx4a65c_isEmpty_aae02 wsJx4a65c_isEmpty_aae02 1 44 G [.ref a] f (.int (bI (decide (xs.length = 0)))) := by
  refine Ct.of (cc := cJx4a65c_isEmpty_aae02) (maxL := 1) (ret := (some .boolean)) (by decide) rfl (Nat.le_of_ble_eq_true rfl) (lv := [(0, _)]) rfl (by simp [Value.category]) ?_
  intro K X hL hG hr hnm
  subst hL; subst hG
  obtain ⟨md, d, g, ha, hd, hE, hl, hg⟩ := hA
  refine V_aload_n X rfl dJx4a65c_isEmpty_aae02_0 ?_
  refine V_get X (T := TJx4a65c) (N := 3) 2 (ha) rfl hinJx4a65c_isEmpty_aae02_Jx4a65c (by decide) (by decide +kernel) (fun _ h9 => h9) rfl dJx4a65c_isEmpty_aae02_1 ?_
  refine V_if_ne X (tgt := 11) (by decide) dJx4a65c_isEmpty_aae02_4 (fun hc4 => ?_) (fun hc4 => ?_)
  · refine V_iconst X (v := 0) (by decide) dJx4a65c_isEmpty_aae02_11 ?_
    exact V_zret X hr (by decide) (⟨bI_f (decide_eq_false fun z => hc4 (by rw [z]; rfl)), rfl⟩) dJx4a65c_isEmpty_aae02_12
  · refine V_iconst X (v := 1) (by decide) dJx4a65c_isEmpty_aae02_7 ?_
    refine V_goto X (tgt := 12) (by decide) dJx4a65c_isEmpty_aae02_8 ?_
    exact V_zret X hr (by decide) (⟨bI_t (decide_eq_true (((nI_eq (b := 0) (by omega) (by omega)).mp hc4))), rfl⟩) dJx4a65c_isEmpty_aae02_12
theorem hinJx4a65c_elementData_915e3_Jx4a65c : ∀ w ∈ wsJx4a65c0, w ∈ wsJx4a65c_elementData_915e3 := by decide +kernel
set_option maxHeartbeats 4000000 in
set_option maxRecDepth 100000 in
theorem c_Jx4a65c_elementData_915e3 (l : Launch) (G : GG) (f : Wo) (a : Nat) (t : Tg) (cap : Nat) (xs : List Nat) (hA : AL G f a t cap xs) (hc : cap ≤ 100000) (i x : Nat) (hx : xs[i]? = some x) : Cp l yJx4a65c_elementData_915e3 wsJx4a65c_elementData_915e3 1 44 G [.ref a, .int (nI i)] f (.ref x) := by
  refine Ct.of (cc := cJx4a65c_elementData_915e3) (maxL := 2) (ret := (some (.object "java/lang/Object"))) (by decide) rfl (Nat.le_of_ble_eq_true rfl) (lv := [(0, _), (1, _)]) rfl (by simp [Value.category]) ?_
  intro K X hL hG hr hnm
  subst hL; subst hG
  obtain ⟨md, d, g, ha, hd, hE, hl, hg⟩ := hA
  have hi : i < xs.length := (List.getElem?_eq_some_iff.mp hx).1
  refine V_aload_n X rfl dJx4a65c_elementData_915e3_0 ?_
  refine V_get X (T := TJx4a65c) (N := 3) 1 (ha) rfl hinJx4a65c_elementData_915e3_Jx4a65c (by decide) (by decide +kernel) (fun _ h9 => h9) rfl dJx4a65c_elementData_915e3_1 ?_
  refine V_iload_n X rfl dJx4a65c_elementData_915e3_4 ?_
  refine V_aldq X (hd) (vp_in_nI (by omega) (by omega)) dJx4a65c_elementData_915e3_5 ?_
  refine V.stk (st' := [.ref x]) (by rw [nI_clamp (by omega), hg i x hx]; rfl) ?_
  exact V_aret X hr (Or.inl ⟨_, rfl⟩) (⟨rfl, rfl⟩) dJx4a65c_elementData_915e3_6
theorem hinJx4a65c_get_915e3_Jx4a65c : ∀ w ∈ wsJx4a65c0, w ∈ wsJx4a65c_get_915e3 := by decide +kernel
set_option maxHeartbeats 4000000 in
set_option maxRecDepth 100000 in
theorem c_Jx4a65c_get_915e3 (l : Launch) (G : GG) (f : Wo) (a : Nat) (t : Tg) (cap : Nat) (xs : List Nat) (hA : AL G f a t cap xs) (hc : cap ≤ 100000) (i x : Nat) (hx : xs[i]? = some x) : Cp l yJx4a65c_get_915e3 wsJx4a65c_get_915e3 8 139 G [.ref a, .int (nI i)] f (.ref x) := by
  refine Ct.of (cc := cJx4a65c_get_915e3) (maxL := 2) (ret := (some (.object "java/lang/Object"))) (by decide) rfl (Nat.le_of_ble_eq_true rfl) (lv := [(0, _), (1, _)]) rfl (by simp [Value.category]) ?_
  intro K X hL hG hr hnm
  subst hL; subst hG
  have hA0 := hA
  obtain ⟨md, d, g, ha, hd, hE, hl, hg⟩ := hA
  have hi : i < xs.length := (List.getElem?_eq_some_iff.mp hx).1
  refine V_iload_n X rfl dJx4a65c_get_915e3_0 ?_
  refine V_aload_n X rfl dJx4a65c_get_915e3_1 ?_
  refine V_get X (T := TJx4a65c) (N := 3) 2 (ha) rfl hinJx4a65c_get_915e3_Jx4a65c (by decide) (by decide +kernel) (fun _ h9 => h9) rfl dJx4a65c_get_915e3_2 ?_
  refine V_callSp X (rest := _) (c_J15_checkIndex_7cf53 _ _ _ _ _ (nI_pos (by omega)) (nI_lt hi (by omega))) gJx4a65c_get_915e3_J15_checkIndex_7cf53 rfl hds_J15_checkIndex_7cf53 (Nat.le_of_ble_eq_true rfl) (Nat.le_of_ble_eq_true rfl) rfl (Nat.le_of_ble_eq_true rfl) dJx4a65c_get_915e3_5 ?_
  refine V_pop X rfl dJx4a65c_get_915e3_8 ?_
  refine V_aload_n X rfl dJx4a65c_get_915e3_9 ?_
  refine V_iload_n X rfl dJx4a65c_get_915e3_10 ?_
  refine V_callVp X (rest := _) (c_Jx4a65c_elementData_915e3 _ _ _ a t cap xs hA0 hc i x hx) ha rfl gJx4a65c_get_915e3_Jx4a65c_elementData_915e3 rfl hdv_Jx4a65c_elementData_915e3 (Nat.le_of_ble_eq_true rfl) (Nat.le_of_ble_eq_true rfl) rfl (Nat.le_of_ble_eq_true rfl) dJx4a65c_get_915e3_11 ?_
  exact V_aret X hr (Or.inl ⟨_, rfl⟩) (⟨rfl, rfl⟩) dJx4a65c_get_915e3_14
set_option maxHeartbeats 4000000 in
set_option maxRecDepth 100000 in
theorem c_Jxa1e45_init_da8c8 (l : Launch) (G : GG) (f : Wo) (a : Nat) : Ct l yJxa1e45_init_da8c8 wsJxa1e45_init_da8c8 2 60 G [.ref a] f (fun v9 f' => v9 = none ∧ f' = f) 0 0 := by
  refine Ct.of (cc := cJxa1e45_init_da8c8) (maxL := 1) (ret := none) (by decide) rfl (Nat.le_of_ble_eq_true rfl) (lv := [(0, _)]) rfl (by simp [Value.category]) ?_
  intro K X hL hG hr hnm
  subst hL; subst hG
  refine V_aload_n X rfl dJxa1e45_init_da8c8_0 ?_
  refine V_obj X (by decide +kernel) (by decide +kernel) (by decide +kernel) (Nat.le_of_ble_eq_true rfl) (Nat.le_of_ble_eq_true rfl) dJxa1e45_init_da8c8_1 ?_
  exact V_vret X hr ⟨rfl, rfl⟩ dJxa1e45_init_da8c8_4
theorem hds2_Jxa1e45_init_da8c8 : yJxa1e45_init_da8c8.cls ≠ "java/lang/invoke/MethodHandle" ∧ yJxa1e45_init_da8c8.cls ≠ "java/lang/invoke/VarHandle" ∧ (parseMethodDescriptor yJxa1e45_init_da8c8.desc).map (fun d => d.parameters.length) = some 0 := by decide +kernel
theorem hds2_Jxc12de_init_da8c8 : yJxc12de_init_da8c8.cls ≠ "java/lang/invoke/MethodHandle" ∧ yJxc12de_init_da8c8.cls ≠ "java/lang/invoke/VarHandle" ∧ (parseMethodDescriptor yJxc12de_init_da8c8.desc).map (fun d => d.parameters.length) = some 0 := by decide +kernel
theorem hinJxc12de_init_da8c8_Jx4a65c : ∀ w ∈ wsJx4a65c0, w ∈ wsJxc12de_init_da8c8 := by decide +kernel
set_option maxHeartbeats 4000000 in
set_option maxRecDepth 100000 in
theorem c_Jxc12de_init_da8c8 (l : Launch) (G : GG) (f : Wo) (a : Nat) (t : Tg) (ht : t.1 ≠ 99) (d s m : Value) (ha : f a = some (t, oO 0 [m, d, s])) : Ct l yJxc12de_init_da8c8 wsJxc12de_init_da8c8 3 80 G [.ref a] f (fun v9 f' => v9 = none ∧ f' = w_up f a t (oO 0 [.int 0, d, s])) 0 0 := by
  refine Ct.of (cc := cJxc12de_init_da8c8) (maxL := 1) (ret := none) (by decide) rfl (Nat.le_of_ble_eq_true rfl) (lv := [(0, _)]) rfl (by simp [Value.category]) ?_
  intro K X hL hG hr hnm
  subst hL; subst hG
  refine V_aload_n X rfl dJxc12de_init_da8c8_0 ?_
  refine V_callI (kc' := 0) (ks' := 0) X (rest := _) (c_Jxa1e45_init_da8c8 _ _ _ _) gJxc12de_init_da8c8_Jxa1e45_init_da8c8 rfl (by decide +kernel) (by decide +kernel) (by decide +kernel) rfl hds2_Jxa1e45_init_da8c8 (Nat.le_of_ble_eq_true rfl) (Nat.le_of_ble_eq_true rfl) rfl (Nat.le_of_ble_eq_true rfl) (by omega) (by omega) dJxc12de_init_da8c8_1 (fun r f1 hq => ?_)
  obtain ⟨rfl, rfl⟩ := hq
  refine V_aload_n X rfl dJxc12de_init_da8c8_4 ?_
  refine V_iconst X (v := 0) (by decide) dJxc12de_init_da8c8_5 ?_
  refine V_put X (T := TJx4a65c) (N := 3) (fs' := [_, _, _]) 0 ha ht rfl hinJxc12de_init_da8c8_Jx4a65c tyJx4a65c_ok nmJx4a65c (by decide) (by decide +kernel) (fun _ h9 => h9) rfl rfl rfl rfl (by simp) rfl dJxc12de_init_da8c8_6 ?_
  exact V_vret X hr (⟨rfl, rfl⟩) dJxc12de_init_da8c8_9
theorem hinJx4a65c_init_da8c8_Jx4a65c : ∀ w ∈ wsJx4a65c0, w ∈ wsJx4a65c_init_da8c8 := by decide +kernel
set_option maxHeartbeats 4000000 in
set_option maxRecDepth 100000 in
theorem c_Jx4a65c_init_da8c8 (l : Launch) (G : GG) (f : Wo) (a : Nat) (t : Tg) (ht : t.1 ≠ 99) (g0 : Nat → Option Nat) (hE : f (gE G) = some ((99, 0), oQ G 0 g0)) (ha : f a = some (t, oO 0 [.int 0, .null, .int 0])) : Ct l yJx4a65c_init_da8c8 wsJx4a65c_init_da8c8 4 100 G [.ref a] f (fun v9 f' => v9 = none ∧ AL G f' a t 0 [] ∧ FrL a f f') 0 0 := by
  refine Ct.of (cc := cJx4a65c_init_da8c8) (maxL := 1) (ret := none) (by decide) rfl (Nat.le_of_ble_eq_true rfl) (lv := [(0, _)]) rfl (by simp [Value.category]) ?_
  intro K X hL hG hr hnm
  subst hL; subst hG
  have hne : gE (kG K) ≠ a := w_neT ha hE (fun z => ht (by rw [z]))
  refine V_aload_n X rfl dJx4a65c_init_da8c8_0 ?_
  refine V_callI (kc' := 0) (ks' := 0) X (rest := _) (c_Jxc12de_init_da8c8 _ _ _ _ t ht _ _ _ ha) gJx4a65c_init_da8c8_Jxc12de_init_da8c8 rfl (by decide +kernel) (by decide +kernel) (by decide +kernel) rfl hds2_Jxc12de_init_da8c8 (Nat.le_of_ble_eq_true rfl) (Nat.le_of_ble_eq_true rfl) rfl (Nat.le_of_ble_eq_true rfl) (by omega) (by omega) dJx4a65c_init_da8c8_1 (fun r f1 hq => ?_)
  obtain ⟨rfl, rfl⟩ := hq
  refine V_aload_n X rfl dJx4a65c_init_da8c8_4 ?_
  refine V_empty X (by decide +kernel) dJx4a65c_init_da8c8_5 ?_
  refine V_put X (T := TJx4a65c) (N := 3) (fs' := [.int 0, .ref (gE (kG K)), .int 0]) 1 (w_up_self _ _ _ _) ht rfl hinJx4a65c_init_da8c8_Jx4a65c tyJx4a65c_ok nmJx4a65c (by decide) (by decide +kernel) (fun _ h9 => h9) rfl rfl rfl rfl (by decide) rfl dJx4a65c_init_da8c8_8 ?_
  exact V_vret X hr (⟨rfl, ⟨0, gE (kG K), g0, w_up_self _ _ _ _, ((w_up_ne _ _ _ hne).trans ((w_up_ne _ _ _ hne).trans hE)), by simp, Nat.le_refl _, fun i x h => by simp at h⟩, FrL.put.trans FrL.put⟩) dJx4a65c_init_da8c8_11
set_option maxHeartbeats 4000000 in
set_option maxRecDepth 100000 in
theorem c_J8_newLength_cabcc (l : Launch) (G : GG) (f : Wo) (c m p : Nat) (h : c + max m p ≤ 1000000) (h0 : 0 < c + max m p) : Cp l yJ8_newLength_cabcc wsJ8_newLength_cabcc 7 118 G [.int (nI c), .int (nI m), .int (nI p)] f (.int (nI (c + max m p))) := by
  refine Ct.of (cc := cJ8_newLength_cabcc) (maxL := 4) (ret := (some .int)) (by decide) rfl (Nat.le_of_ble_eq_true rfl) (lv := [(0, _), (1, _), (2, _)]) rfl (by simp [Value.category]) ?_
  intro K X hL hG hr hnm
  subst hL; subst hG
  refine V_iload_n X rfl dJ8_newLength_cabcc_0 ?_
  refine V_iload_n X rfl dJ8_newLength_cabcc_1 ?_
  refine V_iload_n X rfl dJ8_newLength_cabcc_2 ?_
  refine V_max X (by decide +kernel) (by decide +kernel) (by decide +kernel) (by decide +kernel) (Nat.le_of_ble_eq_true rfl) (Nat.le_of_ble_eq_true rfl) dJ8_newLength_cabcc_3 ?_
  refine V.top (y := nI (max m p)) (by by_cases h2 : m < p; rw [if_pos (nI_lt h2 (by omega)), Nat.max_eq_right (Nat.le_of_lt h2)]; rw [if_neg (nI_nlt (by omega) (by omega)), Nat.max_eq_left (by omega)]) ?_
  refine V_iadd X dJ8_newLength_cabcc_6 ?_
  refine V.top (y := nI (c + max m p)) (nI_add _ _) ?_
  refine V_istore_n X (lv' := [(3, _), (0, _), (1, _), (2, _)]) (by decide) rfl dJ8_newLength_cabcc_7 ?_
  refine V_iconst X (v := 0) (by decide) dJ8_newLength_cabcc_8 ?_
  refine V_iload_n X rfl dJ8_newLength_cabcc_9 ?_
  refine V_icmp_ge X (tgt := 21) (by decide) dJ8_newLength_cabcc_10 (fun hc10 => absurd hc10 (nI_nle h0 (by omega))) (fun hc10 => ?_)
  refine V_iload_n X rfl dJ8_newLength_cabcc_13 ?_
  refine V_ldc X (v := 2147483639) (by decide +kernel) dJ8_newLength_cabcc_14 ?_
  refine V_icmp_gt X (tgt := 21) (by decide) dJ8_newLength_cabcc_16 (fun hc16 => absurd hc16 (Int32.not_lt.mpr (Int32.le_trans (nI_le (b := 1000000) h (by decide)) (by decide)))) (fun hc16 => ?_)
  refine V_iload_n X rfl dJ8_newLength_cabcc_19 ?_
  exact V_iret X hr (⟨rfl, rfl⟩) dJ8_newLength_cabcc_20
theorem w_up_up (f : Wo) (a : Nat) (t u : Tg) (e e' : va_E) : w_up (w_up f a t e) a u e' = w_up f a u e' := by
  funext b
  by_cases h : b = a
  · subst h; rw [w_up_self, w_up_self]
  · rw [w_up_ne _ _ _ h, w_up_ne _ _ _ h, w_up_ne _ _ _ h]
set_option maxHeartbeats 4000000 in
set_option maxRecDepth 100000 in
theorem c_J7_copyOf_6403c (l : Launch) (G : GG) (f : Wo) (u tg : Tg) (hu9 : u.1 ≠ 99) (hu : tg.1 ≠ 99) (d n m : Nat) (g : Nat → Option Nat) (hd : f d = some (u, oQ G n g)) (hm : n ≤ m) (hm2 : m ≤ 1000000) (C : String) (hC : Cond.castable C "java/lang/Object" ∈ xC) (hel : ∀ i < n, ∀ y, g i = some y → ∃ (t : Tg) (ci : Nat) (vs : List Value) (T : u_T) (N : Nat), f y = some (t, .inr (ci, vs)) ∧ vwCl[ci]? = some (C, T, N)) : Ct l yJ7_copyOf_6403c wsJ7_copyOf_6403c 2 60 G [.ref d, .int (nI m), .ref (gM G)] f (fun v9 f' => ∃ q, v9 = some (.ref q) ∧ f q = none ∧ f' = w_up f q tg (oQ G m (va_cpy g (fun _ => none) 0 0 n))) 1 m := by
  refine Ct.of (cc := cJ7_copyOf_6403c) (maxL := 4) (ret := (some (.array (.object "java/lang/Object")))) (by decide) rfl (Nat.le_of_ble_eq_true rfl) (lv := [(0, _), (1, _), (2, _)]) rfl (by simp [Value.category]) ?_
  intro K X hL hG hr hnm
  subst hL; subst hG
  refine V_aload_n X rfl dJ7_copyOf_6403c_0 ?_
  refine V_ldcM X (by decide +kernel) dJ7_copyOf_6403c_1 ?_
  refine V_acmp_ne X (tgt := 13) (by decide) dJ7_copyOf_6403c_3 (fun hc3 => absurd hc3 (fun z => z rfl)) (fun hc3 => ?_)
  refine V_iload_n X rfl dJ7_copyOf_6403c_6 ?_
  refine V_newQ X (kc' := 0) (ks' := 0) (N := m) tg (by decide +kernel) (nI_pos (by omega)) (nI_clamp (by omega)) (by omega) (by omega) (by omega) dJ7_copyOf_6403c_7 (fun q hq => ?_)
  refine V_goto X (tgt := 24) (by decide) dJ7_copyOf_6403c_10 ?_
  refine V_astore_n X (lv' := [(3, _), (0, _), (1, _), (2, _)]) (by decide) rfl dJ7_copyOf_6403c_24 ?_
  refine V_aload_n X rfl dJ7_copyOf_6403c_25 ?_
  refine V_iconst X (v := 0) (by decide) dJ7_copyOf_6403c_26 ?_
  refine V_aload_n X rfl dJ7_copyOf_6403c_27 ?_
  refine V_iconst X (v := 0) (by decide) dJ7_copyOf_6403c_28 ?_
  refine V_aload_n X rfl dJ7_copyOf_6403c_29 ?_
  refine V_alenQ X ((w_up_ne _ _ _ (w_neN hd hq)).trans hd) dJ7_copyOf_6403c_30 ?_
  refine V_iload_n X rfl dJ7_copyOf_6403c_31 ?_
  refine V_min X (by decide +kernel) (by decide +kernel) (by decide +kernel) (by decide +kernel) (Nat.le_of_ble_eq_true rfl) (Nat.le_of_ble_eq_true rfl) dJ7_copyOf_6403c_32 ?_
  refine V.top (y := nI n) (by by_cases h2 : m < n; omega; rw [if_neg (nI_nlt (by omega) (by omega))]) ?_
  refine V_copyq X (C := C) ((w_up_ne _ _ _ (w_neN hd hq)).trans hd) hu9 (w_up_self _ _ _ _) hu (by decide +kernel) (by decide +kernel) (by decide +kernel) (by decide +kernel) (by decide) (by decide) (nI_pos (by omega)) (by rw [nI_clamp (by omega)]; show 0 + n ≤ n; omega) (by rw [nI_clamp (by omega)]; show 0 + n ≤ m; omega) (fun i hi y hy => ?_) (X.kk.2.2.2.2.2.2.2.2.1 _ hC) (Nat.le_of_ble_eq_true rfl) (Nat.le_of_ble_eq_true rfl) dJ7_copyOf_6403c_35 ?_
  · rw [nI_clamp (by omega)] at hi
    rw [show (0 : Int32).toNatClampNeg + i = i from Nat.zero_add i] at hy
    obtain ⟨t, ci, vs, T, N, e1, e2⟩ := hel i hi y hy
    exact ⟨t, ci, vs, T, N, (w_up_ne _ _ _ (w_neN e1 hq)).trans e1, e2⟩
  rw [w_up_up, nI_clamp (by omega), show (0 : Int32).toNatClampNeg = 0 from rfl]
  refine V_aload_n X rfl dJ7_copyOf_6403c_38 ?_
  exact V_aret X hr (Or.inr ⟨_, rfl⟩) (⟨q, rfl, hq, rfl⟩) dJ7_copyOf_6403c_39
set_option maxHeartbeats 4000000 in
set_option maxRecDepth 100000 in
theorem c_J7_copyOf_1904c (l : Launch) (G : GG) (f : Wo) (u tg : Tg) (hu9 : u.1 ≠ 99) (hu : tg.1 ≠ 99) (d n m : Nat) (g : Nat → Option Nat) (hd : f d = some (u, oQ G n g)) (hm : n ≤ m) (hm2 : m ≤ 1000000) (C : String) (hC : Cond.castable C "java/lang/Object" ∈ xC) (hel : ∀ i < n, ∀ y, g i = some y → ∃ (t : Tg) (ci : Nat) (vs : List Value) (T : u_T) (N : Nat), f y = some (t, .inr (ci, vs)) ∧ vwCl[ci]? = some (C, T, N)) : Ct l yJ7_copyOf_1904c wsJ7_copyOf_1904c 3 83 G [.ref d, .int (nI m)] f (fun v9 f' => ∃ q, v9 = some (.ref q) ∧ f q = none ∧ f' = w_up f q tg (oQ G m (va_cpy g (fun _ => none) 0 0 n))) 1 m := by
  refine Ct.of (cc := cJ7_copyOf_1904c) (maxL := 2) (ret := (some (.array (.object "java/lang/Object")))) (by decide) rfl (Nat.le_of_ble_eq_true rfl) (lv := [(0, _), (1, _)]) rfl (by simp [Value.category]) ?_
  intro K X hL hG hr hnm
  subst hL; subst hG
  refine V_aload_n X rfl dJ7_copyOf_1904c_0 ?_
  refine V_iload_n X rfl dJ7_copyOf_1904c_1 ?_
  refine V_aload_n X rfl dJ7_copyOf_1904c_2 ?_
  refine V_getC X hd (by decide +kernel) (by decide +kernel) (by decide +kernel) (by decide +kernel) (Nat.le_of_ble_eq_true rfl) (Nat.le_of_ble_eq_true rfl) dJ7_copyOf_1904c_3 ?_
  refine V_callS (kc' := 0) (ks' := 0) X (rest := _) (c_J7_copyOf_6403c _ _ _ u tg hu9 hu d n m g hd hm hm2 C hC hel) gJ7_copyOf_1904c_J7_copyOf_6403c rfl hds_J7_copyOf_6403c (Nat.le_of_ble_eq_true rfl) (Nat.le_of_ble_eq_true rfl) rfl (Nat.le_of_ble_eq_true rfl) (by omega) (by omega) dJ7_copyOf_1904c_6 (fun r f1 hq => ?_)
  obtain ⟨q, rfl, hq, rfl⟩ := hq
  exact V_aret X hr (Or.inr ⟨_, rfl⟩) (⟨q, rfl, hq, rfl⟩) dJ7_copyOf_1904c_9
theorem nI_cl {n : Nat} (h : n ≤ 1000000) : (nI n).toNatClampNeg = n := nI_clamp (by omega)
theorem ALx.el {G : GG} {f : Wo} {a d cap : Nat} {t : Tg} {md : Int32} {g : Nat → Option Nat} {xs : List Nat} (h : ALx G f a t md d g cap xs) (hl : xs.length = cap) {C : String} (he : EL f C xs) : ∀ i < cap, ∀ y, g i = some y → ∃ (t : Tg) (ci : Nat) (vs : List Value) (T : u_T) (N : Nat), f y = some (t, .inr (ci, vs)) ∧ vwCl[ci]? = some (C, T, N) := fun i hi y hy => by
  obtain ⟨-, -, -, -, hg⟩ := h
  have hi2 : i < xs.length := by omega
  have h1 := hg i xs[i] (List.getElem?_eq_getElem hi2)
  rw [hy] at h1
  cases h1
  obtain ⟨t, ci, vs, T, N, e1, e2, -⟩ := he _ (List.getElem_mem hi2)
  exact ⟨t, ci, vs, T, N, e1, e2⟩
theorem ALx.grown {G : GG} {f : Wo} {a d cap q : Nat} {t : Tg} {md : Int32} {g g' : Nat → Option Nat} {xs : List Nat} (h : ALx G f a t md d g cap xs) (hq : f q = none) (hE : ∃ x, f (gE G) = some x) (hl : xs.length = cap) (c2 : Nat) (hc : cap ≤ c2) (h0 : c2 ≠ 0) (hg' : ∀ i x, xs[i]? = some x → g' i = some x) : ALx G (w_up (w_up f q (20, a) (oQ G c2 g')) a t (oO 0 [.int md, .ref q, .int (nI xs.length)])) a t md q g' c2 xs := by
  obtain ⟨ha, hd, -, -, -⟩ := h
  have hqa : q ≠ a := fun e => by rw [e, ha] at hq; cases hq
  refine ⟨w_up_self _ _ _ _, ?_, ⟨fun z => absurd z h0, fun z => ?_⟩, by omega, hg'⟩
  · rw [if_neg h0]
    exact (w_up_ne _ _ _ hqa).trans (w_up_self _ _ _ _)
  · obtain ⟨x, hx⟩ := hE
    rw [z, hx] at hq
    cases hq
theorem hinJx4a65c_grow_92f84_Jx4a65c : ∀ w ∈ wsJx4a65c0, w ∈ wsJx4a65c_grow_92f84 := by decide +kernel
set_option maxHeartbeats 4000000 in
set_option maxRecDepth 100000 in
theorem c_Jx4a65c_grow_92f84 (l : Launch) (G : GG) (f : Wo) (a : Nat) (t : Tg) (ht : t.1 ≠ 99) (md : Int32) (d : Nat) (g : Nat → Option Nat) (cap : Nat) (xs : List Nat) (hA : ALx G f a t md d g cap xs) (hl : xs.length = cap) (hc : cap ≤ 100000) (hE : ∃ x, f (gE G) = some x) (C : String) (hC : Cond.castable C "java/lang/Object" ∈ xC) (hel : EL f C xs) : Ct l yJx4a65c_grow_92f84 wsJx4a65c_grow_92f84 8 141 G [.ref a, .int (nI (xs.length + 1))] f (fun v9 f' => ∃ q g', v9 = some (.ref q) ∧ ALx G f' a t md q g' (ncap cap) xs ∧ FrL a f f') 1 (ncap cap) := by
  refine Ct.of (cc := cJx4a65c_grow_92f84) (maxL := 4) (ret := (some (.array (.object "java/lang/Object")))) (by decide) rfl (Nat.le_of_ble_eq_true rfl) (lv := [(0, _), (1, _)]) rfl (by simp [Value.category]) ?_
  intro K X hL hG hr hnm
  subst hL; subst hG
  have hA0 := hA
  obtain ⟨ha, hd, hdE, hle, hg⟩ := hA
  by_cases hz : cap = 0
  · rw [if_pos hz] at hd
    refine V_aload_n X rfl dJx4a65c_grow_92f84_0 ?_
    refine V_get X (T := TJx4a65c) (N := 3) 1 (ha) rfl hinJx4a65c_grow_92f84_Jx4a65c (by decide) (by decide +kernel) (fun _ h9 => h9) rfl dJx4a65c_grow_92f84_1 ?_
    refine V_alenQ X hd dJx4a65c_grow_92f84_4 ?_
    refine V_istore_n X (lv' := [(2, _), (0, _), (1, _)]) (by decide) rfl dJx4a65c_grow_92f84_5 ?_
    refine V_iload_n X rfl dJx4a65c_grow_92f84_6 ?_
    refine V_if_gt X (tgt := 20) (by decide) dJx4a65c_grow_92f84_7 (fun hc7 => absurd hc7 (by rw [hz]; decide)) (fun hc7 => ?_)
    refine V_aload_n X rfl dJx4a65c_grow_92f84_10 ?_
    refine V_get X (T := TJx4a65c) (N := 3) 1 (ha) rfl hinJx4a65c_grow_92f84_Jx4a65c (by decide) (by decide +kernel) (fun _ h9 => h9) rfl dJx4a65c_grow_92f84_11 ?_
    refine V_empty X (by decide +kernel) dJx4a65c_grow_92f84_14 ?_
    refine V_acmp_eq X (tgt := 45) (by decide) dJx4a65c_grow_92f84_17 (fun hc17 => ?_) (fun hc17 => absurd hc17 (not_not_intro (hdE.mp hz)))
    refine V_aload_n X rfl dJx4a65c_grow_92f84_45 ?_
    refine V_bipush X (v := 10) (by decide) dJx4a65c_grow_92f84_46 ?_
    refine V_iload_n X rfl dJx4a65c_grow_92f84_48 ?_
    refine V_max X (by decide +kernel) (by decide +kernel) (by decide +kernel) (by decide +kernel) (Nat.le_of_ble_eq_true rfl) (Nat.le_of_ble_eq_true rfl) dJx4a65c_grow_92f84_49 ?_
    refine V.top (y := nI 10) (if_neg (nI_nlt (a := 10) (b := xs.length + 1) (by omega) (by decide))) ?_
    refine V_newQ X (kc' := 0) (ks' := 0) (N := 10) (20, a) (by decide +kernel) (nI_pos (by decide)) (nI_clamp (by decide)) (by decide) (by omega) (by rw [hz]; decide) dJx4a65c_grow_92f84_52 (fun q hq => ?_)
    refine V_dup_x1 X rfl rfl dJx4a65c_grow_92f84_55 ?_
    refine V_put X (T := TJx4a65c) (N := 3) (fs' := [_, _, _]) 1 (((w_up_ne _ _ _ (w_neN ha hq)).trans ha)) (ht) rfl hinJx4a65c_grow_92f84_Jx4a65c tyJx4a65c_ok nmJx4a65c (by decide) (by decide +kernel) (fun _ h9 => h9) rfl rfl rfl rfl (by first | decide | simp) rfl dJx4a65c_grow_92f84_56 ?_
    exact V_aret X hr (Or.inr ⟨_, rfl⟩) (⟨q, fun _ => none, rfl, (show ncap cap = 10 by unfold ncap; rw [if_pos hz]) ▸ hA0.grown hq hE hl 10 (by omega) (by decide) (fun i x hx => by have := (List.getElem?_eq_some_iff.mp hx).1; omega), (FrL.new hq).trans FrL.put⟩) dJx4a65c_grow_92f84_59
  · rw [if_neg hz] at hd
    have hS : cap + max (xs.length + 1 - cap) (cap / 2) = ncap cap := by unfold ncap; rw [if_neg hz, hl]; congr 2; omega
    refine V_aload_n X rfl dJx4a65c_grow_92f84_0 ?_
    refine V_get X (T := TJx4a65c) (N := 3) 1 (ha) rfl hinJx4a65c_grow_92f84_Jx4a65c (by decide) (by decide +kernel) (fun _ h9 => h9) rfl dJx4a65c_grow_92f84_1 ?_
    refine V_alenQ X hd dJx4a65c_grow_92f84_4 ?_
    refine V_istore_n X (lv' := [(2, _), (0, _), (1, _)]) (by decide) rfl dJx4a65c_grow_92f84_5 ?_
    refine V_iload_n X rfl dJx4a65c_grow_92f84_6 ?_
    refine V_if_gt X (tgt := 20) (by decide) dJx4a65c_grow_92f84_7 (fun hc7 => ?_) (fun hc7 => absurd hc7 (not_not_intro (nI_lt (a := 0) (b := cap) (by omega) (by omega))))
    refine V_iload_n X rfl dJx4a65c_grow_92f84_20 ?_
    refine V_iload_n X rfl dJx4a65c_grow_92f84_21 ?_
    refine V_iload_n X rfl dJx4a65c_grow_92f84_22 ?_
    refine V_isub X dJx4a65c_grow_92f84_23 ?_
    refine V.top (y := nI (xs.length + 1 - cap)) (pk_sub (by omega)) ?_
    refine V_iload_n X rfl dJx4a65c_grow_92f84_24 ?_
    refine V_iconst X (v := 1) (by decide) dJx4a65c_grow_92f84_25 ?_
    refine V_ishr X dJx4a65c_grow_92f84_26 ?_
    refine V.top (y := nI (cap / 2)) (pk_shrN (by omega) 1 1 (by decide)) ?_
    refine V_callSp X (rest := _) (c_J8_newLength_cabcc _ _ _ cap (xs.length + 1 - cap) (cap / 2) (by omega) (by omega)) gJx4a65c_grow_92f84_J8_newLength_cabcc rfl hds_J8_newLength_cabcc (Nat.le_of_ble_eq_true rfl) (Nat.le_of_ble_eq_true rfl) rfl (Nat.le_of_ble_eq_true rfl) dJx4a65c_grow_92f84_27 ?_
    refine V_istore_n X (lv' := [(3, _), (2, _), (0, _), (1, _)]) (by decide) rfl dJx4a65c_grow_92f84_30 ?_
    refine V_aload_n X rfl dJx4a65c_grow_92f84_31 ?_
    refine V_aload_n X rfl dJx4a65c_grow_92f84_32 ?_
    refine V_get X (T := TJx4a65c) (N := 3) 1 (ha) rfl hinJx4a65c_grow_92f84_Jx4a65c (by decide) (by decide +kernel) (fun _ h9 => h9) rfl dJx4a65c_grow_92f84_33 ?_
    refine V_iload_n X rfl dJx4a65c_grow_92f84_36 ?_
    refine V_callS (kc' := 0) (ks' := 0) X (rest := _) (c_J7_copyOf_1904c _ _ _ (20, a) (20, a) (by show (20 : Nat) ≠ 99; omega) (by show (20 : Nat) ≠ 99; omega) d cap (cap + max (xs.length + 1 - cap) (cap / 2)) g hd (by omega) (by omega) C hC (hA0.el hl hel)) gJx4a65c_grow_92f84_J7_copyOf_1904c rfl hds_J7_copyOf_1904c (Nat.le_of_ble_eq_true rfl) (Nat.le_of_ble_eq_true rfl) rfl (Nat.le_of_ble_eq_true rfl) (by omega) (by omega) dJx4a65c_grow_92f84_37 (fun r f1 hq => ?_)
    obtain ⟨q, rfl, hq, rfl⟩ := hq
    refine V_dup_x1 X rfl rfl dJx4a65c_grow_92f84_40 ?_
    refine V_put X (T := TJx4a65c) (N := 3) (fs' := [_, _, _]) 1 (((w_up_ne _ _ _ (w_neN ha hq)).trans ha)) (ht) rfl hinJx4a65c_grow_92f84_Jx4a65c tyJx4a65c_ok nmJx4a65c (by decide) (by decide +kernel) (fun _ h9 => h9) rfl rfl rfl rfl (by first | decide | simp) rfl dJx4a65c_grow_92f84_41 ?_
    rw [hS]
    exact V_aret X hr (Or.inr ⟨_, rfl⟩) (⟨q, va_cpy g (fun _ => none) 0 0 cap, rfl, hA0.grown hq hE hl (ncap cap) (by omega) (by omega) (fun i x hx => by have := (List.getElem?_eq_some_iff.mp hx).1; rw [pk_cpy_in (Nat.zero_le _) (by omega)]; simpa using hg i x hx), (FrL.new hq).trans FrL.put⟩) dJx4a65c_grow_92f84_44
theorem hinJx4a65c_grow_d5877_Jx4a65c : ∀ w ∈ wsJx4a65c0, w ∈ wsJx4a65c_grow_d5877 := by decide +kernel
set_option maxHeartbeats 4000000 in
set_option maxRecDepth 100000 in
theorem c_Jx4a65c_grow_d5877 (l : Launch) (G : GG) (f : Wo) (a : Nat) (t : Tg) (ht : t.1 ≠ 99) (md : Int32) (d : Nat) (g : Nat → Option Nat) (cap : Nat) (xs : List Nat) (hA : ALx G f a t md d g cap xs) (hl : xs.length = cap) (hc : cap ≤ 100000) (hE : ∃ x, f (gE G) = some x) (C : String) (hC : Cond.castable C "java/lang/Object" ∈ xC) (hel : EL f C xs) : Ct l yJx4a65c_grow_d5877 wsJx4a65c_grow_d5877 9 164 G [.ref a] f (fun v9 f' => ∃ q g', v9 = some (.ref q) ∧ ALx G f' a t md q g' (ncap cap) xs ∧ FrL a f f') 1 (ncap cap) := by
  refine Ct.of (cc := cJx4a65c_grow_d5877) (maxL := 1) (ret := (some (.array (.object "java/lang/Object")))) (by decide) rfl (Nat.le_of_ble_eq_true rfl) (lv := [(0, _)]) rfl (by simp [Value.category]) ?_
  intro K X hL hG hr hnm
  subst hL; subst hG
  have ha := hA.1
  refine V_aload_n X rfl dJx4a65c_grow_d5877_0 ?_
  refine V_aload_n X rfl dJx4a65c_grow_d5877_1 ?_
  refine V_get X (T := TJx4a65c) (N := 3) 2 (ha) rfl hinJx4a65c_grow_d5877_Jx4a65c (by decide) (by decide +kernel) (fun _ h9 => h9) rfl dJx4a65c_grow_d5877_2 ?_
  refine V_iconst X (v := 1) (by decide) dJx4a65c_grow_d5877_5 ?_
  refine V_iadd X dJx4a65c_grow_d5877_6 ?_
  refine V.top (y := nI (xs.length + 1)) (nI_1 _) ?_
  refine V_callV (kc' := 0) (ks' := 0) X (rest := _) (c_Jx4a65c_grow_92f84 _ _ _ a t ht md d g cap xs hA hl hc hE C hC hel) ha rfl gJx4a65c_grow_d5877_Jx4a65c_grow_92f84 rfl hdv_Jx4a65c_grow_92f84 (Nat.le_of_ble_eq_true rfl) (Nat.le_of_ble_eq_true rfl) rfl (Nat.le_of_ble_eq_true rfl) (by omega) (by omega) dJx4a65c_grow_d5877_7 (fun r f1 hq => ?_)
  obtain ⟨q, g2, rfl, hA2, hF2⟩ := hq
  exact V_aret X hr (Or.inr ⟨_, rfl⟩) (⟨q, g2, rfl, hA2, hF2⟩) dJx4a65c_grow_d5877_10
theorem ALx.da {G : GG} {f : Wo} {a d cap : Nat} {t : Tg} {md : Int32} {g : Nat → Option Nat} {xs : List Nat} (h : ALx G f a t md d g cap xs) : d ≠ a := fun e => by
  have h1 := h.1
  have h2 := h.2.1
  rw [e, h1] at h2
  cases h2
theorem ALx.push {G : GG} {f : Wo} {a d cap : Nat} {t : Tg} {md : Int32} {g : Nat → Option Nat} {xs : List Nat} (h : ALx G f a t md d g cap xs) (hlt : xs.length < cap) (x : Nat) : ALx G (w_up (w_up f d (20, a) (oQ G cap (va_up g xs.length (some x)))) a t (oO 0 [.int md, .ref d, .int (nI (xs.length + 1))])) a t md d (va_up g xs.length (some x)) cap (xs ++ [x]) ∧ FrL a f (w_up (w_up f d (20, a) (oQ G cap (va_up g xs.length (some x)))) a t (oO 0 [.int md, .ref d, .int (nI (xs.length + 1))])) := by
  have hda := h.da
  obtain ⟨ha, hd, hE, hl, hg⟩ := h
  rw [if_neg (by omega)] at hd
  refine ⟨⟨?_, ?_, hE, ?_, fun i y hy => ?_⟩, (FrL.dat hd).trans FrL.put⟩
  · rw [w_up_self, List.length_append]; rfl
  · rw [if_neg (by omega)]
    exact (w_up_ne _ _ _ hda).trans (w_up_self _ _ _ _)
  · rw [List.length_append]; exact hlt
  · by_cases hi : i = xs.length
    · subst hi
      rw [va_up_self]
      rw [List.getElem?_append_right (Nat.le_refl _)] at hy
      simpa using hy
    · rw [va_up_ne _ _ hi]
      have h1 := (List.getElem?_eq_some_iff.mp hy).1
      rw [List.length_append] at h1
      simp at h1
      rw [List.getElem?_append_left (by omega)] at hy
      exact hg i y hy
theorem ALx.md {G : GG} {f : Wo} {a d cap : Nat} {t : Tg} {md : Int32} {g : Nat → Option Nat} {xs : List Nat} (h : ALx G f a t md d g cap xs) (m : Int32) : ALx G (w_up f a t (oO 0 [.int m, .ref d, .int (nI xs.length)])) a t m d g cap xs := ⟨w_up_self _ _ _ _, (w_up_ne _ _ _ h.da).trans h.2.1, h.2.2.1, h.2.2.2.1, h.2.2.2.2⟩
theorem EL.ne {f : Wo} {C : String} {xs : List Nat} (h : EL f C xs) {a : Nat} {t : Tg} {vs : List Value} (ha : f a = some (t, oO 0 vs)) (hC : C ≠ RJx4a65c) : ∀ x ∈ xs, x ≠ a := fun x hx e => by
  obtain ⟨t2, ci, vs2, T, N, e1, e2, -⟩ := h x hx
  rw [e, ha] at e1
  cases e1
  cases e2
  exact hC rfl
theorem EL.mono {f f' : Wo} {C : String} {xs : List Nat} (h : EL f C xs) {a : Nat} {t : Tg} {vs : List Value} (ha : f a = some (t, oO 0 vs)) (hC : C ≠ RJx4a65c) (hF : FrL a f f') : EL f' C xs := fun x hx => by
  have hn := h.ne ha hC x hx
  obtain ⟨t2, ci, vs2, T, N, e1, e2, e3⟩ := h x hx
  exact ⟨t2, ci, vs2, T, N, hF x _ e1 hn (fun e => e3 (congrArg Prod.fst e)), e2, e3⟩
theorem hinJx4a65c_add_72be8_Jx4a65c : ∀ w ∈ wsJx4a65c0, w ∈ wsJx4a65c_add_72be8 := by decide +kernel
set_option maxHeartbeats 4000000 in
set_option maxRecDepth 100000 in
theorem c_Jx4a65c_add_72be8 (l : Launch) (G : GG) (f : Wo) (a : Nat) (t : Tg) (ht : t.1 ≠ 99) (md : Int32) (d : Nat) (g : Nat → Option Nat) (cap : Nat) (xs : List Nat) (hA : ALx G f a t md d g cap xs) (hc : cap ≤ 100000) (hE : ∃ x, f (gE G) = some x) (C : String) (hC : Cond.castable C "java/lang/Object" ∈ xC) (hCn : C ≠ RJx4a65c) (x : Nat) (hel : EL f C (x :: xs)) : Ct l yJx4a65c_add_72be8 wsJx4a65c_add_72be8 10 184 G [.ref a, .ref x, .ref d, .int (nI xs.length)] f (fun v9 f' => v9 = none ∧ AL G f' a t (cap2 cap xs.length) (xs ++ [x]) ∧ FrL a f f') (adC cap xs.length) (adS cap xs.length) := by
  refine Ct.of (cc := cJx4a65c_add_72be8) (maxL := 4) (ret := none) (by decide) rfl (Nat.le_of_ble_eq_true rfl) (lv := [(0, _), (1, _), (2, _), (3, _)]) rfl (by simp [Value.category]) ?_
  intro K X hL hG hr hnm
  subst hL; subst hG
  have hle := hA.2.2.2.1
  by_cases hlt : xs.length < cap
  · rw [show cap2 cap xs.length = cap from if_pos hlt] at hr
    have hd := hA.2.1
    rw [if_neg (by omega)] at hd
    refine V_iload_n X rfl dJx4a65c_add_72be8_0 ?_
    refine V_aload_n X rfl dJx4a65c_add_72be8_1 ?_
    refine V_alenQ X hA.2.1 dJx4a65c_add_72be8_2 ?_
    refine V_icmp_ne X (tgt := 11) (by decide) dJx4a65c_add_72be8_3 (fun hc3 => ?_) (fun hc3 => absurd hc3 (fun z => absurd ((nI_eq (by omega) (by omega)).mp z) (by omega)))
    refine V_aload_n X rfl dJx4a65c_add_72be8_11 ?_
    refine V_iload_n X rfl dJx4a65c_add_72be8_12 ?_
    refine V_aload_n X rfl dJx4a65c_add_72be8_13 ?_
    obtain ⟨t2, ci, vs, T, N, e1, e2, -⟩ := hel x List.mem_cons_self
    refine V_astq X hd (by show (20 : Nat) ≠ 99; omega) e1 e2 (X.kk.2.2.2.2.2.2.2.2.1 _ hC) (vp_in_nI (by omega) (by omega)) dJx4a65c_add_72be8_14 ?_
    rw [nI_clamp (by omega)]
    refine V_aload_n X rfl dJx4a65c_add_72be8_15 ?_
    refine V_iload_n X rfl dJx4a65c_add_72be8_16 ?_
    refine V_iconst X (v := 1) (by decide) dJx4a65c_add_72be8_17 ?_
    refine V_iadd X dJx4a65c_add_72be8_18 ?_
    refine V.top (y := nI (xs.length + 1)) (nI_1 _) ?_
    refine V_put X (T := TJx4a65c) (N := 3) (fs' := [_, _, _]) 2 (((w_up_ne _ _ _ hA.da.symm).trans hA.1)) (ht) rfl hinJx4a65c_add_72be8_Jx4a65c tyJx4a65c_ok nmJx4a65c (by decide) (by decide +kernel) (fun _ h9 => h9) rfl rfl rfl rfl (by first | decide | simp) rfl dJx4a65c_add_72be8_19 ?_
    exact V_vret X hr (⟨rfl, ⟨_, _, _, (hA.push hlt x).1⟩, (hA.push hlt x).2⟩) dJx4a65c_add_72be8_22
  · rw [show cap2 cap xs.length = ncap cap from if_neg hlt] at hr
    rw [show adC cap xs.length = 1 from if_neg hlt, show adS cap xs.length = ncap cap from if_neg hlt]
    refine V_iload_n X rfl dJx4a65c_add_72be8_0 ?_
    refine V_aload_n X rfl dJx4a65c_add_72be8_1 ?_
    refine V_alenQ X hA.2.1 dJx4a65c_add_72be8_2 ?_
    refine V_icmp_ne X (tgt := 11) (by decide) dJx4a65c_add_72be8_3 (fun hc3 => absurd hc3 (fun z => z (by rw [show xs.length = cap by omega]))) (fun hc3 => ?_)
    refine V_aload_n X rfl dJx4a65c_add_72be8_6 ?_
    refine V_callV (kc' := 0) (ks' := 0) X (rest := _) (c_Jx4a65c_grow_d5877 _ _ _ a t ht md d g cap xs hA (by omega) hc hE C hC (fun y hy => hel y (List.mem_cons_of_mem _ hy))) hA.1 rfl gJx4a65c_add_72be8_Jx4a65c_grow_d5877 rfl hdv_Jx4a65c_grow_d5877 (Nat.le_of_ble_eq_true rfl) (Nat.le_of_ble_eq_true rfl) rfl (Nat.le_of_ble_eq_true rfl) (by omega) (by omega) dJx4a65c_add_72be8_7 (fun r f1 hq => ?_)
    obtain ⟨q, g2, rfl, hA2, hF2⟩ := hq
    have hlt2 : xs.length < ncap cap := by unfold ncap; split <;> omega
    have hn2 : ncap cap ≤ 200000 := by unfold ncap; split <;> omega
    have hel2 := hel.mono hA.1 hCn hF2
    have hd2 := hA2.2.1
    rw [if_neg (by omega)] at hd2
    refine V_astore_n X (lv' := [(2, _), (0, _), (1, _), (3, _)]) (by decide) rfl dJx4a65c_add_72be8_10 ?_
    refine V_aload_n X rfl dJx4a65c_add_72be8_11 ?_
    refine V_iload_n X rfl dJx4a65c_add_72be8_12 ?_
    refine V_aload_n X rfl dJx4a65c_add_72be8_13 ?_
    obtain ⟨t2, ci, vs, T, N, e1, e2, -⟩ := hel2 x List.mem_cons_self
    refine V_astq X hd2 (by show (20 : Nat) ≠ 99; omega) e1 e2 (X.kk.2.2.2.2.2.2.2.2.1 _ hC) (vp_in_nI (by omega) (by omega)) dJx4a65c_add_72be8_14 ?_
    rw [nI_clamp (by omega)]
    refine V_aload_n X rfl dJx4a65c_add_72be8_15 ?_
    refine V_iload_n X rfl dJx4a65c_add_72be8_16 ?_
    refine V_iconst X (v := 1) (by decide) dJx4a65c_add_72be8_17 ?_
    refine V_iadd X dJx4a65c_add_72be8_18 ?_
    refine V.top (y := nI (xs.length + 1)) (nI_1 _) ?_
    refine V_put X (T := TJx4a65c) (N := 3) (fs' := [_, _, _]) 2 (((w_up_ne _ _ _ hA2.da.symm).trans hA2.1)) (ht) rfl hinJx4a65c_add_72be8_Jx4a65c tyJx4a65c_ok nmJx4a65c (by decide) (by decide +kernel) (fun _ h9 => h9) rfl rfl rfl rfl (by first | decide | simp) rfl dJx4a65c_add_72be8_19 ?_
    exact V_vret X hr (⟨rfl, ⟨_, _, _, (hA2.push hlt2 x).1⟩, hF2.trans (hA2.push hlt2 x).2⟩) dJx4a65c_add_72be8_22
theorem hinJx4a65c_add_9ea2d_Jx4a65c : ∀ w ∈ wsJx4a65c0, w ∈ wsJx4a65c_add_9ea2d := by decide +kernel
set_option maxHeartbeats 4000000 in
set_option maxRecDepth 100000 in
theorem c_Jx4a65c_add_9ea2d (l : Launch) (G : GG) (f : Wo) (a : Nat) (t : Tg) (ht : t.1 ≠ 99) (cap : Nat) (xs : List Nat) (hA : AL G f a t cap xs) (hc : cap ≤ 100000) (hE : ∃ x, f (gE G) = some x) (C : String) (hC : Cond.castable C "java/lang/Object" ∈ xC) (hCn : C ≠ RJx4a65c) (x : Nat) (hel : EL f C (x :: xs)) : Ct l yJx4a65c_add_9ea2d wsJx4a65c_add_9ea2d 11 207 G [.ref a, .ref x] f (fun v9 f' => v9 = some (.int 1) ∧ AL G f' a t (cap2 cap xs.length) (xs ++ [x]) ∧ FrL a f f') (adC cap xs.length) (adS cap xs.length) := by
  refine Ct.of (cc := cJx4a65c_add_9ea2d) (maxL := 2) (ret := (some .boolean)) (by decide) rfl (Nat.le_of_ble_eq_true rfl) (lv := [(0, _), (1, _)]) rfl (by simp [Value.category]) ?_
  intro K X hL hG hr hnm
  subst hL; subst hG
  obtain ⟨md, d, g, hA⟩ := hA
  have ha := hA.1
  refine V_aload_n X rfl dJx4a65c_add_9ea2d_0 ?_
  refine V_dup X rfl dJx4a65c_add_9ea2d_1 ?_
  refine V_get X (T := TJx4a65c) (N := 3) 0 (ha) rfl hinJx4a65c_add_9ea2d_Jx4a65c (by decide) (by decide +kernel) (u_same (X.hts (.sameField "java/util/ArrayList" "java/util/AbstractList" "modCount" "I") (by decide +kernel))) rfl dJx4a65c_add_9ea2d_2 ?_
  refine V_iconst X (v := 1) (by decide) dJx4a65c_add_9ea2d_5 ?_
  refine V_iadd X dJx4a65c_add_9ea2d_6 ?_
  refine V_put X (T := TJx4a65c) (N := 3) (fs' := [_, _, _]) 0 (ha) (ht) rfl hinJx4a65c_add_9ea2d_Jx4a65c tyJx4a65c_ok nmJx4a65c (by decide) (by decide +kernel) (u_same (X.hts (.sameField "java/util/ArrayList" "java/util/AbstractList" "modCount" "I") (by decide +kernel))) rfl rfl rfl rfl (by first | decide | simp) rfl dJx4a65c_add_9ea2d_7 ?_
  have hE2 : ∃ y, (w_up f a t (oO 0 [.int (md + 1), .ref d, .int (nI xs.length)])) (gE (kG K)) = some y := by
      by_cases h : gE (kG K) = a
      · exact ⟨_, by rw [h]; exact w_up_self _ _ _ _⟩
      · exact hE.imp fun y hy => (w_up_ne _ _ _ h).trans hy
  refine V_aload_n X rfl dJx4a65c_add_9ea2d_10 ?_
  refine V_aload_n X rfl dJx4a65c_add_9ea2d_11 ?_
  refine V_aload_n X rfl dJx4a65c_add_9ea2d_12 ?_
  refine V_get X (T := TJx4a65c) (N := 3) 1 (w_up_self _ _ _ _) rfl hinJx4a65c_add_9ea2d_Jx4a65c (by decide) (by decide +kernel) (fun _ h9 => h9) rfl dJx4a65c_add_9ea2d_13 ?_
  refine V_aload_n X rfl dJx4a65c_add_9ea2d_16 ?_
  refine V_get X (T := TJx4a65c) (N := 3) 2 (w_up_self _ _ _ _) rfl hinJx4a65c_add_9ea2d_Jx4a65c (by decide) (by decide +kernel) (fun _ h9 => h9) rfl dJx4a65c_add_9ea2d_17 ?_
  refine V_callV (kc' := 0) (ks' := 0) X (rest := _) (c_Jx4a65c_add_72be8 _ _ _ a t ht (md + 1) d g cap xs (hA.md _) hc hE2 C hC hCn x (hel.mono ha hCn FrL.put)) (w_up_self _ _ _ _) rfl gJx4a65c_add_9ea2d_Jx4a65c_add_72be8 rfl hdv_Jx4a65c_add_72be8 (Nat.le_of_ble_eq_true rfl) (Nat.le_of_ble_eq_true rfl) rfl (Nat.le_of_ble_eq_true rfl) (by omega) (by omega) dJx4a65c_add_9ea2d_20 (fun r f1 hq => ?_)
  obtain ⟨rfl, hA2, hF2⟩ := hq
  refine V_iconst X (v := 1) (by decide) dJx4a65c_add_9ea2d_23 ?_
  exact V_zret X hr (by decide) (⟨rfl, hA2, FrL.put.trans hF2⟩) dJx4a65c_add_9ea2d_24
theorem ALx.cut {G : GG} {f : Wo} {a d cap : Nat} {t : Tg} {md : Int32} {g : Nat → Option Nat} {xs : List Nat} (h : ALx G f a t md d g cap xs) (m : Int32) (ys : List Nat) (hy : ys.length ≤ cap) (h2 : ∀ i x, ys[i]? = some x → g i = some x) : ALx G (w_up f a t (oO 0 [.int m, .ref d, .int (nI ys.length)])) a t m d g cap ys := ⟨w_up_self _ _ _ _, (w_up_ne _ _ _ h.da).trans h.2.1, h.2.2.1, hy, h2⟩
theorem ALx.nul {G : GG} {f : Wo} {a d cap : Nat} {t : Tg} {md : Int32} {g : Nat → Option Nat} {xs : List Nat} (h : ALx G f a t md d g cap xs) (h0 : cap ≠ 0) (k : Nat) (hk : xs.length ≤ k) : ALx G (w_up f d (20, a) (oQ G cap (va_up g k none))) a t md d (va_up g k none) cap xs ∧ FrL a f (w_up f d (20, a) (oQ G cap (va_up g k none))) := by
  have hda := h.da
  obtain ⟨ha, hd, hE, hl, hg⟩ := h
  rw [if_neg h0] at hd
  refine ⟨⟨(w_up_ne _ _ _ hda.symm).trans ha, ?_, hE, hl, fun i y hy => ?_⟩, FrL.dat hd⟩
  · rw [if_neg h0]; exact w_up_self _ _ _ _
  · have := (List.getElem?_eq_some_iff.mp hy).1
    rw [va_up_ne _ _ (by omega)]
    exact hg i y hy
theorem hinJx4a65c_clear_da8c8_Jx4a65c : ∀ w ∈ wsJx4a65c0, w ∈ wsJx4a65c_clear_da8c8 := by decide +kernel
set_option maxHeartbeats 4000000 in
set_option maxRecDepth 100000 in
theorem c_Jx4a65c_clear_da8c8 (l : Launch) (G : GG) (f : Wo) (a : Nat) (t : Tg) (ht : t.1 ≠ 99) (cap : Nat) (xs : List Nat) (hA : AL G f a t cap xs) (hc : cap ≤ 100000) : Ct l yJx4a65c_clear_da8c8 wsJx4a65c_clear_da8c8 1 44 G [.ref a] f (fun v9 f' => v9 = none ∧ AL G f' a t cap [] ∧ FrL a f f') 0 0 := by
  refine Ct.of (cc := cJx4a65c_clear_da8c8) (maxL := 4) (ret := none) (by decide) rfl (Nat.le_of_ble_eq_true rfl) (lv := [(0, _)]) rfl (by simp [Value.category]) ?_
  intro K X hL hG hr hnm
  subst hL; subst hG
  obtain ⟨md, d, g, hA⟩ := hA
  have hle := hA.2.2.2.1
  have ha := hA.1
  have L : ∀ (n i : Nat), xs.length - i = n → i ≤ xs.length → ∀ (f1 : Wo) (g : Nat → Option Nat), ALx (kG K) f1 a t (md + 1) d g cap [] → FrL a f f1 → V K f1 0 0 27 [(0, .ref a), (1, .ref d), (2, .int (nI xs.length)), (3, .int (nI i))] [] := by
    intro n
    induction n using Nat.strongRecOn with
    | ind n ih =>
      intro i hn hi f1 g hA1 hF1
      refine V_iload_n X rfl dJx4a65c_clear_da8c8_27 ?_
      refine V_iload_n X rfl dJx4a65c_clear_da8c8_28 ?_
      refine V_icmp_ge X (tgt := 42) (by decide) dJx4a65c_clear_da8c8_29 (fun hc29 => ?_) (fun hc29 => ?_)
      · exact V_vret X hr (⟨rfl, ⟨_, _, _, hA1⟩, hF1⟩) dJx4a65c_clear_da8c8_42
      · have hlt : i < xs.length := (nI_ltI (by omega) (by omega)).mp (Int32.not_le.mp hc29)
        have hd1 := hA1.2.1
        rw [if_neg (by omega)] at hd1
        refine V_aload_n X rfl dJx4a65c_clear_da8c8_32 ?_
        refine V_iload_n X rfl dJx4a65c_clear_da8c8_33 ?_
        refine V_null X dJx4a65c_clear_da8c8_34 ?_
        refine V_astqN X hd1 (by show (20 : Nat) ≠ 99; omega) (vp_in_nI (by omega) (by omega)) dJx4a65c_clear_da8c8_35 ?_
        rw [nI_clamp (by omega)]
        refine V_iinc X (lv' := [(3, _), (0, _), (1, _), (2, _)]) (v := nI (i + 1)) rfl (nI_1 _) (by decide) rfl dJx4a65c_clear_da8c8_36 ?_
        refine V_goto X (tgt := 27) (by decide) dJx4a65c_clear_da8c8_39 ?_
        refine V.lvs (lv' := [(0, _), (1, _), (2, _), (3, _)]) rfl ?_
        exact ih (xs.length - (i + 1)) (by omega) (i + 1) rfl (by omega) _ _ (hA1.nul (by omega) i (Nat.zero_le _)).1 (hF1.trans (hA1.nul (by omega) i (Nat.zero_le _)).2)
  refine V_aload_n X rfl dJx4a65c_clear_da8c8_0 ?_
  refine V_dup X rfl dJx4a65c_clear_da8c8_1 ?_
  refine V_get X (T := TJx4a65c) (N := 3) 0 (ha) rfl hinJx4a65c_clear_da8c8_Jx4a65c (by decide) (by decide +kernel) (u_same (X.hts (.sameField "java/util/ArrayList" "java/util/AbstractList" "modCount" "I") (by decide +kernel))) rfl dJx4a65c_clear_da8c8_2 ?_
  refine V_iconst X (v := 1) (by decide) dJx4a65c_clear_da8c8_5 ?_
  refine V_iadd X dJx4a65c_clear_da8c8_6 ?_
  refine V_put X (T := TJx4a65c) (N := 3) (fs' := [_, _, _]) 0 (ha) (ht) rfl hinJx4a65c_clear_da8c8_Jx4a65c tyJx4a65c_ok nmJx4a65c (by decide) (by decide +kernel) (u_same (X.hts (.sameField "java/util/ArrayList" "java/util/AbstractList" "modCount" "I") (by decide +kernel))) rfl rfl rfl rfl (by first | decide | simp) rfl dJx4a65c_clear_da8c8_7 ?_
  refine V_aload_n X rfl dJx4a65c_clear_da8c8_10 ?_
  refine V_get X (T := TJx4a65c) (N := 3) 1 (w_up_self _ _ _ _) rfl hinJx4a65c_clear_da8c8_Jx4a65c (by decide) (by decide +kernel) (fun _ h9 => h9) rfl dJx4a65c_clear_da8c8_11 ?_
  refine V_astore_n X (lv' := [(1, _), (0, _)]) (by decide) rfl dJx4a65c_clear_da8c8_14 ?_
  refine V_aload_n X rfl dJx4a65c_clear_da8c8_15 ?_
  refine V_get X (T := TJx4a65c) (N := 3) 2 (w_up_self _ _ _ _) rfl hinJx4a65c_clear_da8c8_Jx4a65c (by decide) (by decide +kernel) (fun _ h9 => h9) rfl dJx4a65c_clear_da8c8_16 ?_
  refine V_istore_n X (lv' := [(2, _), (1, _), (0, _)]) (by decide) rfl dJx4a65c_clear_da8c8_19 ?_
  refine V_aload_n X rfl dJx4a65c_clear_da8c8_20 ?_
  refine V_iconst X (v := 0) (by decide) dJx4a65c_clear_da8c8_21 ?_
  refine V_dup_x1 X rfl rfl dJx4a65c_clear_da8c8_22 ?_
  refine V_put X (T := TJx4a65c) (N := 3) (fs' := [_, _, _]) 2 (w_up_self _ _ _ _) (ht) rfl hinJx4a65c_clear_da8c8_Jx4a65c tyJx4a65c_ok nmJx4a65c (by decide) (by decide +kernel) (fun _ h9 => h9) rfl rfl rfl rfl (by first | decide | simp) rfl dJx4a65c_clear_da8c8_23 ?_
  refine V_istore_n X (lv' := [(3, _), (2, _), (1, _), (0, _)]) (by decide) rfl dJx4a65c_clear_da8c8_26 ?_
  refine V.lvs (lv' := [(0, _), (1, _), (2, _), (3, _)]) rfl ?_
  rw [w_up_up]
  exact L xs.length 0 rfl (Nat.zero_le _) _ g (hA.cut _ [] (Nat.zero_le _) (fun i x h => by simp at h)) FrL.put
theorem hinJx4a65c_fastRemove_b59b0_Jx4a65c : ∀ w ∈ wsJx4a65c0, w ∈ wsJx4a65c_fastRemove_b59b0 := by decide +kernel
set_option maxHeartbeats 4000000 in
set_option maxRecDepth 100000 in
theorem c_Jx4a65c_fastRemove_b59b0 (l : Launch) (G : GG) (f : Wo) (a : Nat) (t : Tg) (ht : t.1 ≠ 99) (md : Int32) (d : Nat) (g : Nat → Option Nat) (cap : Nat) (ys : List Nat) (x : Nat) (hA : ALx G f a t md d g cap (ys ++ [x])) (hc : cap ≤ 100000) : Ct l yJx4a65c_fastRemove_b59b0 wsJx4a65c_fastRemove_b59b0 2 60 G [.ref a, .ref d, .int (nI ys.length)] f (fun v9 f' => v9 = none ∧ AL G f' a t cap ys ∧ FrL a f f') 0 0 := by
  refine Ct.of (cc := cJx4a65c_fastRemove_b59b0) (maxL := 4) (ret := none) (by decide) rfl (Nat.le_of_ble_eq_true rfl) (lv := [(0, _), (1, _), (2, _)]) rfl (by simp [Value.category]) ?_
  intro K X hL hG hr hnm
  subst hL; subst hG
  have hle := hA.2.2.2.1
  rw [List.length_append] at hle
  simp only [List.length_cons, List.length_nil] at hle
  have ha := hA.1
  rw [List.length_append] at ha
  simp only [List.length_cons, List.length_nil] at ha
  have hd := hA.2.1
  rw [if_neg (by omega)] at hd
  have hda := hA.da
  have hB := hA.cut (md + 1) ys (by omega) (fun i y hy => hA.2.2.2.2 i y (by rw [List.getElem?_append_left (List.getElem?_eq_some_iff.mp hy).1]; exact hy))
  refine V_aload_n X rfl dJx4a65c_fastRemove_b59b0_0 ?_
  refine V_dup X rfl dJx4a65c_fastRemove_b59b0_1 ?_
  refine V_get X (T := TJx4a65c) (N := 3) 0 (ha) rfl hinJx4a65c_fastRemove_b59b0_Jx4a65c (by decide) (by decide +kernel) (u_same (X.hts (.sameField "java/util/ArrayList" "java/util/AbstractList" "modCount" "I") (by decide +kernel))) rfl dJx4a65c_fastRemove_b59b0_2 ?_
  refine V_iconst X (v := 1) (by decide) dJx4a65c_fastRemove_b59b0_5 ?_
  refine V_iadd X dJx4a65c_fastRemove_b59b0_6 ?_
  refine V_put X (T := TJx4a65c) (N := 3) (fs' := [_, _, _]) 0 (ha) (ht) rfl hinJx4a65c_fastRemove_b59b0_Jx4a65c tyJx4a65c_ok nmJx4a65c (by decide) (by decide +kernel) (u_same (X.hts (.sameField "java/util/ArrayList" "java/util/AbstractList" "modCount" "I") (by decide +kernel))) rfl rfl rfl rfl (by first | decide | simp) rfl dJx4a65c_fastRemove_b59b0_7 ?_
  refine V_aload_n X rfl dJx4a65c_fastRemove_b59b0_10 ?_
  refine V_get X (T := TJx4a65c) (N := 3) 2 (w_up_self _ _ _ _) rfl hinJx4a65c_fastRemove_b59b0_Jx4a65c (by decide) (by decide +kernel) (fun _ h9 => h9) rfl dJx4a65c_fastRemove_b59b0_11 ?_
  refine V_iconst X (v := 1) (by decide) dJx4a65c_fastRemove_b59b0_14 ?_
  refine V_isub X dJx4a65c_fastRemove_b59b0_15 ?_
  refine V.top (y := nI ys.length) (nI_pred _) ?_
  refine V_dup X rfl dJx4a65c_fastRemove_b59b0_16 ?_
  refine V_istore_n X (lv' := [(3, _), (0, _), (1, _), (2, _)]) (by decide) rfl dJx4a65c_fastRemove_b59b0_17 ?_
  refine V_iload_n X rfl dJx4a65c_fastRemove_b59b0_18 ?_
  refine V_icmp_le X (tgt := 34) (by decide) dJx4a65c_fastRemove_b59b0_19 (fun hc19 => ?_) (fun hc19 => absurd hc19 (not_not_intro (Int32.le_refl _)))
  refine V_aload_n X rfl dJx4a65c_fastRemove_b59b0_34 ?_
  refine V_aload_n X rfl dJx4a65c_fastRemove_b59b0_35 ?_
  refine V_iload_n X rfl dJx4a65c_fastRemove_b59b0_36 ?_
  refine V_dup_x1 X rfl rfl dJx4a65c_fastRemove_b59b0_37 ?_
  refine V_put X (T := TJx4a65c) (N := 3) (fs' := [_, _, _]) 2 (w_up_self _ _ _ _) (ht) rfl hinJx4a65c_fastRemove_b59b0_Jx4a65c tyJx4a65c_ok nmJx4a65c (by decide) (by decide +kernel) (fun _ h9 => h9) rfl rfl rfl rfl (by first | decide | simp) rfl dJx4a65c_fastRemove_b59b0_38 ?_
  rw [w_up_up]
  refine V_null X dJx4a65c_fastRemove_b59b0_41 ?_
  refine V_astqN X ((w_up_ne _ _ _ hda).trans hd) (by show (20 : Nat) ≠ 99; omega) (vp_in_nI (by omega) (by omega)) dJx4a65c_fastRemove_b59b0_42 ?_
  rw [nI_clamp (by omega)]
  exact V_vret X hr (⟨rfl, ⟨_, _, _, (hB.nul (by omega) ys.length (Nat.le_refl _)).1⟩, FrL.put.trans (hB.nul (by omega) ys.length (Nat.le_refl _)).2⟩) dJx4a65c_fastRemove_b59b0_43
theorem hinJx4a65c_remove_915e3_Jx4a65c : ∀ w ∈ wsJx4a65c0, w ∈ wsJx4a65c_remove_915e3 := by decide +kernel
set_option maxHeartbeats 4000000 in
set_option maxRecDepth 100000 in
theorem c_Jx4a65c_remove_915e3 (l : Launch) (G : GG) (f : Wo) (a : Nat) (t : Tg) (ht : t.1 ≠ 99) (cap : Nat) (ys : List Nat) (x : Nat) (hA : AL G f a t cap (ys ++ [x])) (hc : cap ≤ 100000) : Ct l yJx4a65c_remove_915e3 wsJx4a65c_remove_915e3 8 139 G [.ref a, .int (nI ys.length)] f (fun v9 f' => v9 = some (.ref x) ∧ AL G f' a t cap ys ∧ FrL a f f') 0 0 := by
  refine Ct.of (cc := cJx4a65c_remove_915e3) (maxL := 4) (ret := (some (.object "java/lang/Object"))) (by decide) rfl (Nat.le_of_ble_eq_true rfl) (lv := [(0, _), (1, _)]) rfl (by simp [Value.category]) ?_
  intro K X hL hG hr hnm
  subst hL; subst hG
  obtain ⟨md, d, g, hA⟩ := hA
  have hle := hA.2.2.2.1
  rw [List.length_append] at hle
  simp only [List.length_cons, List.length_nil] at hle
  have ha := hA.1
  rw [List.length_append] at ha
  simp only [List.length_cons, List.length_nil] at ha
  have hd := hA.2.1
  have hg := hA.2.2.2.2 ys.length x (by simp)
  refine V_iload_n X rfl dJx4a65c_remove_915e3_0 ?_
  refine V_aload_n X rfl dJx4a65c_remove_915e3_1 ?_
  refine V_get X (T := TJx4a65c) (N := 3) 2 (ha) rfl hinJx4a65c_remove_915e3_Jx4a65c (by decide) (by decide +kernel) (fun _ h9 => h9) rfl dJx4a65c_remove_915e3_2 ?_
  refine V_callSp X (rest := _) (c_J15_checkIndex_7cf53 _ _ _ _ _ (nI_pos (by omega)) (nI_lt (b := ys.length + 1) (by omega) (by omega))) gJx4a65c_remove_915e3_J15_checkIndex_7cf53 rfl hds_J15_checkIndex_7cf53 (Nat.le_of_ble_eq_true rfl) (Nat.le_of_ble_eq_true rfl) rfl (Nat.le_of_ble_eq_true rfl) dJx4a65c_remove_915e3_5 ?_
  refine V_pop X rfl dJx4a65c_remove_915e3_8 ?_
  refine V_aload_n X rfl dJx4a65c_remove_915e3_9 ?_
  refine V_get X (T := TJx4a65c) (N := 3) 1 (ha) rfl hinJx4a65c_remove_915e3_Jx4a65c (by decide) (by decide +kernel) (fun _ h9 => h9) rfl dJx4a65c_remove_915e3_10 ?_
  refine V_astore_n X (lv' := [(2, _), (0, _), (1, _)]) (by decide) rfl dJx4a65c_remove_915e3_13 ?_
  refine V_aload_n X rfl dJx4a65c_remove_915e3_14 ?_
  refine V_iload_n X rfl dJx4a65c_remove_915e3_15 ?_
  refine V_aldq X (hd) (vp_in_nI (by omega) (by omega)) dJx4a65c_remove_915e3_16 ?_
  refine V.stk (st' := [.ref x]) (by rw [nI_clamp (by omega), hg]; rfl) ?_
  refine V_astore_n X (lv' := [(3, _), (2, _), (0, _), (1, _)]) (by decide) rfl dJx4a65c_remove_915e3_17 ?_
  refine V_aload_n X rfl dJx4a65c_remove_915e3_18 ?_
  refine V_aload_n X rfl dJx4a65c_remove_915e3_19 ?_
  refine V_iload_n X rfl dJx4a65c_remove_915e3_20 ?_
  refine V_callV (kc' := 0) (ks' := 0) X (rest := _) (c_Jx4a65c_fastRemove_b59b0 _ _ _ a t ht md d g cap ys x hA hc) ha rfl gJx4a65c_remove_915e3_Jx4a65c_fastRemove_b59b0 rfl hdv_Jx4a65c_fastRemove_b59b0 (Nat.le_of_ble_eq_true rfl) (Nat.le_of_ble_eq_true rfl) rfl (Nat.le_of_ble_eq_true rfl) (by omega) (by omega) dJx4a65c_remove_915e3_21 (fun r f1 hq => ?_)
  obtain ⟨rfl, hA2, hF2⟩ := hq
  refine V_aload_n X rfl dJx4a65c_remove_915e3_24 ?_
  exact V_aret X hr (Or.inl ⟨_, rfl⟩) (⟨rfl, hA2, hF2⟩) dJx4a65c_remove_915e3_25
