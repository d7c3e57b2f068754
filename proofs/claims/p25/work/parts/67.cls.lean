/-! ===== addPlayer ===== -/
def adF (fi : Nat → Nat → Int32) (n : Nat) (r ro : Int32) : Nat → Nat → Int32 := fu (fu (fu (fu (fu fi 0 n ro) 1 n r) 2 n 350) 3 n 0) 4 n 0
theorem adF_ne (fi : Nat → Nat → Int32) (n : Nat) (r ro : Int32) (a b : Nat) (h : okn a ≠ 0 ∨ b ≠ n) : adF fi n r ro a b = fi a b := by
  have h2 : ∀ j, okn j = 0 → a ≠ j ∨ b ≠ n := fun j hj => h.imp (fun h e => h (by rw [e]; exact hj)) id
  unfold adF
  rw [fu_ne _ _ (h2 4 rfl), fu_ne _ _ (h2 3 rfl), fu_ne _ _ (h2 2 rfl), fu_ne _ _ (h2 1 rfl), fu_ne _ _ (h2 0 rfl)]
theorem plz : ∀ j, j < 6 → defaultValue (tyX3 j) = vp_V [.int 0, .int 0, .int 0, .int 0, .int 0, .null] j := fun j hj => by
  have : j = 0 ∨ j = 1 ∨ j = 2 ∨ j = 3 ∨ j = 4 ∨ j = 5 := by omega
  rcases this with rfl | rfl | rfl | rfl | rfl | rfl <;> rfl
theorem hds2_X3_init : yX3_init.cls ≠ "java/lang/invoke/MethodHandle" ∧ yX3_init.cls ≠ "java/lang/invoke/VarHandle" ∧ (parseMethodDescriptor yX3_init.desc).map (fun d => d.parameters.length) = some 2 := by decide +kernel
theorem hinX5_addPlayer_X3 : ∀ w ∈ wsX30, w ∈ wsX5_addPlayer := by decide +kernel
theorem hinX5_addPlayer_X5 : ∀ w ∈ wsX50, w ∈ wsX5_addPlayer := by decide +kernel
set_option maxHeartbeats 4000000 in
set_option maxRecDepth 100000 in
theorem c_X5_addPlayer_t (l : Launch) (G : GG) (f : Wo) (al : Tg → Nat) (fi : Nat → Nat → Int32) (z : CZ) (hR : RC G al fi z f) (r ro : Int32) (h1 : 0 ≤ r) (h2 : r ≤ 4000) (h3 : 1 ≤ ro) (h4 : ro ≤ 7) (h5 : zN z 0 < 18) (hcc : zC z (13, 0) ≤ 25) : Ct l yX5_addPlayer wsX5_addPlayer 12 228 G [.ref (al (15, 0)), .int r, .int ro] f (fun v9 f' => ∃ al' : Tg → Nat, v9 = some (.int (nI (zN z 0))) ∧ al' (15, 0) = al (15, 0) ∧ RC G al' (adF fi (zN z 0) r ro) (zP z (cap2 (zC z (13, 0)) (zN z 0))) f' ∧ FrC f f') 2 31 := by
  refine Ct.of (cc := cX5_addPlayer) (maxL := 3) (ret := (some .int)) (by decide) rfl (Nat.le_of_ble_eq_true rfl) (lv := [(0, _), (1, _), (2, _)]) rfl (by simp [Value.category]) ?_
  intro K X hL hG hr hnm
  subst hL; subst hG
  have hF : FrC f f := FrC.rf
  have hEL : EL f RX3 (lst al (zL z) (13, 0)) := fun x hx => by
    obtain ⟨j, hj, rfl⟩ := List.mem_map.mp hx
    exact hR.one (k := 0) (by decide) (hR.1.1 (13, 0) (dl13 (by decide)) j hj)
  refine V_iload_n X rfl dX5_addPlayer_0 ?_
  refine V_if_lt X (tgt := 22) (by decide) dX5_addPlayer_1 (fun hc1 => absurd hc1 (Int32.not_lt.mpr h1)) (fun hc1 => ?_)
  refine V_iload_n X rfl dX5_addPlayer_4 ?_
  refine V_sipush X (v := 4000) (by decide) dX5_addPlayer_5 ?_
  refine V_icmp_gt X (tgt := 22) (by decide) dX5_addPlayer_8 (fun hc8 => absurd hc8 (Int32.not_lt.mpr h2)) (fun hc8 => ?_)
  refine V_iload_n X rfl dX5_addPlayer_11 ?_
  refine V_iconst X (v := 1) (by decide) dX5_addPlayer_12 ?_
  refine V_icmp_lt X (tgt := 22) (by decide) dX5_addPlayer_13 (fun hc13 => absurd hc13 (Int32.not_lt.mpr h3)) (fun hc13 => ?_)
  refine V_iload_n X rfl dX5_addPlayer_16 ?_
  refine V_bipush X (v := 7) (by decide) dX5_addPlayer_17 ?_
  refine V_icmp_le X (tgt := 32) (by decide) dX5_addPlayer_19 (fun hc19 => ?_) (fun hc19 => absurd hc19 (not_not_intro h4))
  refine V_aload_n X rfl dX5_addPlayer_32 ?_
  refine V_get X (T := TX5) (N := 5) (v := .ref _) 0 (hR.2.1 (15, 0) (dm15)) rfl hinX5_addPlayer_X5 (by decide) (by decide +kernel) (fun _ h9 => h9) (rfl) dX5_addPlayer_33 ?_
  refine V_csize X hR (rest := _) (13, 0) (dl13 (by decide)) gX5_addPlayer_Jx4a65c_size_8abf5 (Nat.le_of_ble_eq_true rfl) (Nat.le_of_ble_eq_true rfl) (Nat.le_of_ble_eq_true rfl) dX5_addPlayer_36 ?_
  refine V.top (y := nI (zN z 0)) (by rw [hR.len (by decide)]) ?_
  refine V_bipush X (v := 18) (by decide) dX5_addPlayer_39 ?_
  refine V_icmp_lt X (tgt := 54) (by decide) dX5_addPlayer_41 (fun hc41 => ?_) (fun hc41 => absurd hc41 (not_not_intro (nI_lt (b := 18) h5 (by decide))))
  refine V_aload_n X rfl dX5_addPlayer_54 ?_
  refine V_get X (T := TX5) (N := 5) (v := .ref _) 0 (hR.2.1 (15, 0) (dm15)) rfl hinX5_addPlayer_X5 (by decide) (by decide +kernel) (fun _ h9 => h9) (rfl) dX5_addPlayer_55 ?_
  refine V_new X (C := RX3) (T := TX3) (N := 6) (ci := 4) (index := 49) (kc' := 1) (ks' := 25) (ty := tyX3) (fs := [.int 0, .int 0, .int 0, .int 0, .int 0, .null]) (0, zN z 0) rfl hinX5_addPlayer_X3 tyX3_ok (by decide +kernel) (by decide +kernel) (by decide +kernel) plz (by omega) (by omega) dX5_addPlayer_58 (fun q hq => ?_)
  refine V_dup X rfl dX5_addPlayer_61 ?_
  refine V_iload_n X rfl dX5_addPlayer_62 ?_
  refine V_iload_n X rfl dX5_addPlayer_63 ?_
  refine V_callI (kc' := 1) (ks' := 25) X (rest := _) (c_X3_init _ _ _ q (0, zN z 0) (by show (0 : Nat) ≠ 99; omega) r ro (w_up_self _ _ _ _)) gX5_addPlayer_X3_init rfl (by decide +kernel) (by decide +kernel) (by decide +kernel) rfl hds2_X3_init (Nat.le_of_ble_eq_true rfl) (Nat.le_of_ble_eq_true rfl) rfl (Nat.le_of_ble_eq_true rfl) (by omega) (by omega) dX5_addPlayer_64 (fun r9 f1 h9 => ?_)
  obtain ⟨rfl, rfl⟩ := h9
  rw [w_up_up]
  obtain ⟨us, hu⟩ := hR.lat (dl13 (n := zN z) (k := 0) (by decide))
  obtain ⟨g0, hg0⟩ := hR.2.2.2
  have hA0 := hR.2.2.1 (13, 0) (dl13 (by decide))
  have hA1 : AL (kG K) (w_up f q (0, zN z 0) (oO 4 [.int ro, .int r, .int 350, .int 0, .int 0, .null])) (al (13, 0)) (13, 0) (zC z (13, 0)) (lst al (zL z) (13, 0)) := hA0.keep fun b x hb _ => w_in hq hb
  have hl : (lst al (zL z) (13, 0)).length = zN z 0 := by rw [lst, List.length_map]; exact hR.len (by decide)
  obtain ⟨hb1, hb2, hb3⟩ := cap2_le (c := zC z (13, 0)) (n := zN z 0) hcc (by omega) (by rw [← hl]; exact hA0.le)
  refine V_callV (kc' := 0) (ks' := 0) X (rest := _) (c_Jx4a65c_add_9ea2d _ _ _ (al (13, 0)) (13, 0) (by decide) _ _ hA1 (by omega) ⟨_, w_in hq hg0⟩ RX3 (CN_x (k := 0) (by decide)).1 (CN_x (k := 0) (by decide)).2 q (fun x hx => by
          rcases List.mem_cons.mp hx with hx | hx
          · subst hx; exact ⟨_, _, _, _, _, w_up_self _ _ _ _, rfl, by show (0 : Nat) ≠ 20; omega⟩
          · obtain ⟨t9, c9, v9, T9, N9, e1, e2, e3⟩ := hEL x hx
            exact ⟨t9, c9, v9, T9, N9, w_in hq e1, e2, e3⟩)) (w_in hq hu) rfl gX5_addPlayer_Jx4a65c_add_9ea2d rfl hdv_Jx4a65c_add_9ea2d (Nat.le_of_ble_eq_true rfl) (Nat.le_of_ble_eq_true rfl) rfl (Nat.le_of_ble_eq_true rfl) (by rw [hl]; omega) (by rw [hl]; omega) dX5_addPlayer_67 (fun r9 f1 h9 => ?_)
  obtain ⟨rfl, hA, hL⟩ := h9
  rw [hl] at hA
  obtain ⟨hR, hF⟩ := hR.growP (fi' := adF fi (zN z 0) r ro) hq hA hL (by simp [fsC, adF, fu, va_up, zA, zP, laR]) (adF_ne fi _ r ro) (by omega) (by omega)
  have eO : al (15, 0) = tu al (0, zN z 0) q (15, 0) := (tu_n al q (fun e => by cases e)).symm
  have hN2 : zN (zP z (cap2 (zC z (13, 0)) (zN z 0))) 0 = zN z 0 + 1 := va_up_self (zN z) 0 _
  rw [eO]
  refine (?_ : V _ _ _ _ _ _ _)
  refine V_pop X rfl dX5_addPlayer_70 ?_
  refine V_aload_n X rfl dX5_addPlayer_71 ?_
  refine V_get X (T := TX5) (N := 5) (v := .ref _) 0 (hR.2.1 (15, 0) (dm15)) rfl hinX5_addPlayer_X5 (by decide) (by decide +kernel) (fun _ h9 => h9) (rfl) dX5_addPlayer_72 ?_
  refine V_csize X hR (rest := _) (13, 0) (dl13 (by decide)) gX5_addPlayer_Jx4a65c_size_8abf5 (Nat.le_of_ble_eq_true rfl) (Nat.le_of_ble_eq_true rfl) (Nat.le_of_ble_eq_true rfl) dX5_addPlayer_75 ?_
  refine V.top (y := nI (zN z 0 + 1)) (by rw [hR.len (by decide), hN2]) ?_
  refine V_iconst X (v := 1) (by decide) dX5_addPlayer_78 ?_
  refine V_isub X dX5_addPlayer_79 ?_
  refine V.top (y := nI (zN z 0)) (nI_pred _) ?_
  exact V_iret X hr (⟨_, rfl, tu_n al q (fun e => by cases e), hR, hF⟩) dX5_addPlayer_80
set_option maxHeartbeats 4000000 in
set_option maxRecDepth 100000 in
theorem c_X5_addPlayer_x (l : Launch) (hl : l.stackTraces = false) (G : GG) (f : Wo) (al : Tg → Nat) (fi : Nat → Nat → Int32) (z : CZ) (hR : RC G al fi z f) (r ro : Int32) (h : r < 0 ∨ 4000 < r ∨ ro < 1 ∨ 7 < ro) : Cx l yX5_addPlayer wsX5_addPlayer 12 228 G [.ref (al (15, 0)), .int r, .int ro] f (fun _ _ => False) (fun E f' => E = "java/lang/IllegalArgumentException" ∧ f' = f) 1 6 := by
  refine Cx.of (cc := cX5_addPlayer) (maxL := 3) (ret := (some .int)) (by decide) rfl (Nat.le_of_ble_eq_true rfl) (lv := [(0, _), (1, _), (2, _)]) rfl (by simp [Value.category]) ?_
  intro K X hL hG hr hT
  subst hL; subst hG
  refine V_iload_n X rfl dX5_addPlayer_0 ?_
  refine V_if_lt X (tgt := 22) (by decide) dX5_addPlayer_1 (fun hc1 => ?_) (fun hc1 => ?_)
  · exact V_throwS X hl hT "java/lang/IllegalArgumentException" "rating or roles out of range" 33 35 37 ⟨rfl, rfl⟩ (by decide +kernel) (by decide +kernel) (by decide +kernel) (by decide) (by decide +kernel) xg_ia xo_ia dX5_addPlayer_22 dX5_addPlayer_25 dX5_addPlayer_26 dX5_addPlayer_28 dX5_addPlayer_31 (Nat.le_of_ble_eq_true rfl) (Nat.le_of_ble_eq_true rfl) (by omega) (by omega)
  · refine V_iload_n X rfl dX5_addPlayer_4 ?_
    refine V_sipush X (v := 4000) (by decide) dX5_addPlayer_5 ?_
    refine V_icmp_gt X (tgt := 22) (by decide) dX5_addPlayer_8 (fun hc8 => ?_) (fun hc8 => ?_)
    · exact V_throwS X hl hT "java/lang/IllegalArgumentException" "rating or roles out of range" 33 35 37 ⟨rfl, rfl⟩ (by decide +kernel) (by decide +kernel) (by decide +kernel) (by decide) (by decide +kernel) xg_ia xo_ia dX5_addPlayer_22 dX5_addPlayer_25 dX5_addPlayer_26 dX5_addPlayer_28 dX5_addPlayer_31 (Nat.le_of_ble_eq_true rfl) (Nat.le_of_ble_eq_true rfl) (by omega) (by omega)
    · refine V_iload_n X rfl dX5_addPlayer_11 ?_
      refine V_iconst X (v := 1) (by decide) dX5_addPlayer_12 ?_
      refine V_icmp_lt X (tgt := 22) (by decide) dX5_addPlayer_13 (fun hc13 => ?_) (fun hc13 => ?_)
      · exact V_throwS X hl hT "java/lang/IllegalArgumentException" "rating or roles out of range" 33 35 37 ⟨rfl, rfl⟩ (by decide +kernel) (by decide +kernel) (by decide +kernel) (by decide) (by decide +kernel) xg_ia xo_ia dX5_addPlayer_22 dX5_addPlayer_25 dX5_addPlayer_26 dX5_addPlayer_28 dX5_addPlayer_31 (Nat.le_of_ble_eq_true rfl) (Nat.le_of_ble_eq_true rfl) (by omega) (by omega)
      · refine V_iload_n X rfl dX5_addPlayer_16 ?_
        refine V_bipush X (v := 7) (by decide) dX5_addPlayer_17 ?_
        refine V_icmp_le X (tgt := 32) (by decide) dX5_addPlayer_19 (fun hc19 => ?_) (fun hc19 => ?_)
        · exact absurd h (fun q => q.elim hc1 (fun q => q.elim hc8 (fun q => q.elim hc13 (fun q => absurd hc19 (Int32.not_le.mpr q)))))
        · exact V_throwS X hl hT "java/lang/IllegalArgumentException" "rating or roles out of range" 33 35 37 ⟨rfl, rfl⟩ (by decide +kernel) (by decide +kernel) (by decide +kernel) (by decide) (by decide +kernel) xg_ia xo_ia dX5_addPlayer_22 dX5_addPlayer_25 dX5_addPlayer_26 dX5_addPlayer_28 dX5_addPlayer_31 (Nat.le_of_ble_eq_true rfl) (Nat.le_of_ble_eq_true rfl) (by omega) (by omega)
set_option maxHeartbeats 4000000 in
set_option maxRecDepth 100000 in
theorem c_X5_addPlayer_s (l : Launch) (hl : l.stackTraces = false) (G : GG) (f : Wo) (al : Tg → Nat) (fi : Nat → Nat → Int32) (z : CZ) (hR : RC G al fi z f) (r ro : Int32) (h1 : 0 ≤ r) (h2 : r ≤ 4000) (h3 : 1 ≤ ro) (h4 : ro ≤ 7) (h5 : 18 ≤ zN z 0) : Cx l yX5_addPlayer wsX5_addPlayer 12 228 G [.ref (al (15, 0)), .int r, .int ro] f (fun _ _ => False) (fun E f' => E = "java/lang/IllegalStateException" ∧ f' = f) 1 6 := by
  refine Cx.of (cc := cX5_addPlayer) (maxL := 3) (ret := (some .int)) (by decide) rfl (Nat.le_of_ble_eq_true rfl) (lv := [(0, _), (1, _), (2, _)]) rfl (by simp [Value.category]) ?_
  intro K X hL hG hr hT
  subst hL; subst hG
  refine V_iload_n X rfl dX5_addPlayer_0 ?_
  refine V_if_lt X (tgt := 22) (by decide) dX5_addPlayer_1 (fun hc1 => absurd hc1 (Int32.not_lt.mpr h1)) (fun hc1 => ?_)
  refine V_iload_n X rfl dX5_addPlayer_4 ?_
  refine V_sipush X (v := 4000) (by decide) dX5_addPlayer_5 ?_
  refine V_icmp_gt X (tgt := 22) (by decide) dX5_addPlayer_8 (fun hc8 => absurd hc8 (Int32.not_lt.mpr h2)) (fun hc8 => ?_)
  refine V_iload_n X rfl dX5_addPlayer_11 ?_
  refine V_iconst X (v := 1) (by decide) dX5_addPlayer_12 ?_
  refine V_icmp_lt X (tgt := 22) (by decide) dX5_addPlayer_13 (fun hc13 => absurd hc13 (Int32.not_lt.mpr h3)) (fun hc13 => ?_)
  refine V_iload_n X rfl dX5_addPlayer_16 ?_
  refine V_bipush X (v := 7) (by decide) dX5_addPlayer_17 ?_
  refine V_icmp_le X (tgt := 32) (by decide) dX5_addPlayer_19 (fun hc19 => ?_) (fun hc19 => absurd hc19 (not_not_intro h4))
  refine V_aload_n X rfl dX5_addPlayer_32 ?_
  refine V_get X (T := TX5) (N := 5) (v := .ref _) 0 (hR.2.1 (15, 0) (dm15)) rfl hinX5_addPlayer_X5 (by decide) (by decide +kernel) (fun _ h9 => h9) (rfl) dX5_addPlayer_33 ?_
  refine V_csize X hR (rest := _) (13, 0) (dl13 (by decide)) gX5_addPlayer_Jx4a65c_size_8abf5 (Nat.le_of_ble_eq_true rfl) (Nat.le_of_ble_eq_true rfl) (Nat.le_of_ble_eq_true rfl) dX5_addPlayer_36 ?_
  refine V.top (y := nI (zN z 0)) (by rw [hR.len (by decide)]) ?_
  refine V_bipush X (v := 18) (by decide) dX5_addPlayer_39 ?_
  refine V_icmp_lt X (tgt := 54) (by decide) dX5_addPlayer_41 (fun hc41 => absurd hc41 (nI_nlt (b := 18) h5 (by have := hR.n1 (j := 0) (by decide); omega))) (fun hc41 => ?_)
  exact V_throwS X hl hT "java/lang/IllegalStateException" "no more players" 44 46 48 ⟨rfl, rfl⟩ (by decide +kernel) (by decide +kernel) (by decide +kernel) (by decide) (by decide +kernel) xg_is xo_is dX5_addPlayer_44 dX5_addPlayer_47 dX5_addPlayer_48 dX5_addPlayer_50 dX5_addPlayer_53 (Nat.le_of_ble_eq_true rfl) (Nat.le_of_ble_eq_true rfl) (by omega) (by omega)
