set_option maxHeartbeats 4000000 in
set_option maxRecDepth 100000 in
theorem c_X6_isIn (l : Launch) (G : GG) (f : Wo) (n a b : Int32) : Cp l yX6_isIn wsX6_isIn 1 44 G [.int n, .int a, .int b] f (.int (bI (inI n a b))) := by
  refine Ct.of (cc := cX6_isIn) (maxL := 3) (ret := (some .boolean)) (by decide) rfl (Nat.le_of_ble_eq_true rfl) (lv := [(0, _), (1, _), (2, _)]) rfl (by simp [Value.category]) ?_
  intro K X hL hG hr hnm
  subst hL; subst hG
  refine V_iload_n X rfl dX6_isIn_0 ?_
  refine V_iload_n X rfl dX6_isIn_1 ?_
  refine V_icmp_lt X (tgt := 14) (by decide) dX6_isIn_2 (fun hc2 => ?_) (fun hc2 => ?_)
  · refine V_iconst X (v := 0) (by decide) dX6_isIn_14 ?_
    exact V_zret X hr (by decide) (⟨bI_f (by simp [inI, Int32.not_le.mpr hc2]), rfl⟩) dX6_isIn_15
  · refine V_iload_n X rfl dX6_isIn_5 ?_
    refine V_iload_n X rfl dX6_isIn_6 ?_
    refine V_icmp_gt X (tgt := 14) (by decide) dX6_isIn_7 (fun hc7 => ?_) (fun hc7 => ?_)
    · refine V_iconst X (v := 0) (by decide) dX6_isIn_14 ?_
      exact V_zret X hr (by decide) (⟨bI_f (by simp [inI, Int32.not_le.mpr hc7]), rfl⟩) dX6_isIn_15
    · refine V_iconst X (v := 1) (by decide) dX6_isIn_10 ?_
      refine V_goto X (tgt := 15) (by decide) dX6_isIn_11 ?_
      exact V_zret X hr (by decide) (⟨bI_t (by simp [inI, Int32.not_lt.mp hc2, Int32.not_lt.mp hc7]), rfl⟩) dX6_isIn_15
set_option maxHeartbeats 4000000 in
set_option maxRecDepth 100000 in
theorem c_X6_has (l : Launch) (G : GG) (f : Wo) (s k : Int32) : Cp l yX6_has wsX6_has 1 44 G [.int s, .int k] f (.int (bI (hsI s k))) := by
  refine Ct.of (cc := cX6_has) (maxL := 2) (ret := (some .boolean)) (by decide) rfl (Nat.le_of_ble_eq_true rfl) (lv := [(0, _), (1, _)]) rfl (by simp [Value.category]) ?_
  intro K X hL hG hr hnm
  subst hL; subst hG
  refine V_iload_n X rfl dX6_has_0 ?_
  refine V_iload_n X rfl dX6_has_1 ?_
  refine V_ishr X dX6_has_2 ?_
  refine V_iconst X (v := 1) (by decide) dX6_has_3 ?_
  refine V_iand X dX6_has_4 ?_
  refine V_iconst X (v := 1) (by decide) dX6_has_5 ?_
  refine V_icmp_ne X (tgt := 13) (by decide) dX6_has_6 (fun hc6 => ?_) (fun hc6 => ?_)
  · refine V_iconst X (v := 0) (by decide) dX6_has_13 ?_
    exact V_zret X hr (by decide) (⟨by first | exact bI_t (by simp_all [hsI, Int32.not_lt, Int32.not_le]) | exact bI_f (by simp_all [hsI, Int32.not_lt, Int32.not_le]), rfl⟩) dX6_has_14
  · refine V_iconst X (v := 1) (by decide) dX6_has_9 ?_
    refine V_goto X (tgt := 14) (by decide) dX6_has_10 ?_
    exact V_zret X hr (by decide) (⟨by first | exact bI_t (by simp_all [hsI, Int32.not_lt, Int32.not_le]) | exact bI_f (by simp_all [hsI, Int32.not_lt, Int32.not_le]), rfl⟩) dX6_has_14
set_option maxHeartbeats 4000000 in
set_option maxRecDepth 100000 in
theorem c_X5_has (l : Launch) (G : GG) (f : Wo) (s k : Int32) : Cp l yX5_has wsX5_has 1 44 G [.int s, .int k] f (.int (bI (hsI s k))) := by
  refine Ct.of (cc := cX5_has) (maxL := 2) (ret := (some .boolean)) (by decide) rfl (Nat.le_of_ble_eq_true rfl) (lv := [(0, _), (1, _)]) rfl (by simp [Value.category]) ?_
  intro K X hL hG hr hnm
  subst hL; subst hG
  refine V_iload_n X rfl dX5_has_0 ?_
  refine V_iload_n X rfl dX5_has_1 ?_
  refine V_ishr X dX5_has_2 ?_
  refine V_iconst X (v := 1) (by decide) dX5_has_3 ?_
  refine V_iand X dX5_has_4 ?_
  refine V_if_eq X (tgt := 12) (by decide) dX5_has_5 (fun hc5 => ?_) (fun hc5 => ?_)
  · refine V_iconst X (v := 0) (by decide) dX5_has_12 ?_
    exact V_zret X hr (by decide) (⟨by first | exact bI_t (hs_ne hc5) | exact bI_f (hs_eq hc5), rfl⟩) dX5_has_13
  · refine V_iconst X (v := 1) (by decide) dX5_has_8 ?_
    refine V_goto X (tgt := 13) (by decide) dX5_has_9 ?_
    exact V_zret X hr (by decide) (⟨by first | exact bI_t (hs_ne hc5) | exact bI_f (hs_eq hc5), rfl⟩) dX5_has_13
set_option maxHeartbeats 4000000 in
set_option maxRecDepth 100000 in
theorem c_X6_size (l : Launch) (G : GG) (f : Wo) (s : Int32) : Cp l yX6_size wsX6_size 1 44 G [.int s] f (.int (szI s)) := by
  refine Ct.of (cc := cX6_size) (maxL := 3) (ret := (some .int)) (by decide) rfl (Nat.le_of_ble_eq_true rfl) (lv := [(0, _)]) rfl (by simp [Value.category]) ?_
  intro K X hL hG hr hnm
  subst hL; subst hG
  have L : ∀ (n i : Nat), 18 - i = n → i ≤ 18 → V K f 0 0 4 [(0, .int s), (1, .int (sumI (fun k => (s >>> (nI k &&& 31)) &&& 1) i)), (2, .int (nI i))] [] := by
    intro n
    induction n using Nat.strongRecOn with
    | ind n ih =>
      intro i hn hi
      refine V_iload_n X rfl dX6_size_4 ?_
      refine V_bipush X (v := 18) (by decide) dX6_size_5 ?_
      refine V_icmp_ge X (tgt := 24) (by decide) dX6_size_7 (fun hc7 => ?_) (fun hc7 => ?_)
      · have hi18 := lim_ge (N := 18) rfl hc7 hi (by omega)
        subst hi18
        refine V_iload_n X rfl dX6_size_24 ?_
        exact V_iret X hr (⟨rfl, rfl⟩) dX6_size_25
      · have hlt := lim_lt (N := 18) rfl hc7 hi (by omega)
        refine V_iload_n X rfl dX6_size_10 ?_
        refine V_iload_n X rfl dX6_size_11 ?_
        refine V_iload_n X rfl dX6_size_12 ?_
        refine V_ishr X dX6_size_13 ?_
        refine V_iconst X (v := 1) (by decide) dX6_size_14 ?_
        refine V_iand X dX6_size_15 ?_
        refine V_iadd X dX6_size_16 ?_
        refine V_istore_n X (lv' := [(1, _), (0, _), (2, _)]) (by decide) rfl dX6_size_17 ?_
        refine V_iinc X (lv' := [(2, _), (1, _), (0, _)]) (v := nI (i + 1)) rfl (nI_1 _) (by decide) rfl dX6_size_18 ?_
        refine V_goto X (tgt := 4) (by decide) dX6_size_21 ?_
        refine V.lvs (lv' := [(0, _), (1, _), (2, _)]) rfl ?_
        exact ih (18 - (i + 1)) (by omega) (i + 1) rfl (by omega)
  refine V_iconst X (v := 0) (by decide) dX6_size_0 ?_
  refine V_istore_n X (lv' := [(1, _), (0, _)]) (by decide) rfl dX6_size_1 ?_
  refine V_iconst X (v := 0) (by decide) dX6_size_2 ?_
  refine V_istore_n X (lv' := [(2, _), (1, _), (0, _)]) (by decide) rfl dX6_size_3 ?_
  refine V.lvs (lv' := [(0, _), (1, _), (2, _)]) rfl ?_
  exact L 18 0 rfl (by omega)
set_option maxHeartbeats 4000000 in
set_option maxRecDepth 100000 in
theorem c_X6_down (l : Launch) (G : GG) (f : Wo) (n b : Int32) (hb : ¬ b = 0) : Cp l yX6_down wsX6_down 1 44 G [.int n, .int b] f (.int (downI n b)) := by
  refine Ct.of (cc := cX6_down) (maxL := 2) (ret := (some .int)) (by decide) rfl (Nat.le_of_ble_eq_true rfl) (lv := [(0, _), (1, _)]) rfl (by simp [Value.category]) ?_
  intro K X hL hG hr hnm
  subst hL; subst hG
  refine V_iload_n X rfl dX6_down_0 ?_
  refine V_if_ge X (tgt := 10) (by decide) dX6_down_1 (fun hc1 => ?_) (fun hc1 => ?_)
  · refine V_iload_n X rfl dX6_down_10 ?_
    refine V_iload_n X rfl dX6_down_11 ?_
    refine V_idiv X (hb) dX6_down_12 ?_
    refine V_goto X (tgt := 21) (by decide) dX6_down_13 ?_
    exact V_iret X hr (⟨congrArg (fun z => some (Value.int z)) (if_pos (Or.inl hc1)).symm, rfl⟩) dX6_down_21
  · refine V_iload_n X rfl dX6_down_4 ?_
    refine V_iload_n X rfl dX6_down_5 ?_
    refine V_irem X (hb) dX6_down_6 ?_
    refine V_if_ne X (tgt := 16) (by decide) dX6_down_7 (fun hc7 => ?_) (fun hc7 => ?_)
    · refine V_iload_n X rfl dX6_down_16 ?_
      refine V_iload_n X rfl dX6_down_17 ?_
      refine V_idiv X (hb) dX6_down_18 ?_
      refine V_iconst X (v := 1) (by decide) dX6_down_19 ?_
      refine V_isub X dX6_down_20 ?_
      exact V_iret X hr (⟨congrArg (fun z => some (Value.int z)) (if_neg (fun h => h.elim (fun h => hc1 h) (fun h => hc7 h))).symm, rfl⟩) dX6_down_21
    · refine V_iload_n X rfl dX6_down_10 ?_
      refine V_iload_n X rfl dX6_down_11 ?_
      refine V_idiv X (hb) dX6_down_12 ?_
      refine V_goto X (tgt := 21) (by decide) dX6_down_13 ?_
      exact V_iret X hr (⟨congrArg (fun z => some (Value.int z)) (if_pos (Or.inr hc7)).symm, rfl⟩) dX6_down_21
