/-! ===== LobbyMaker: expire, finish, pass ===== -/
theorem hinX5_expire_X1 : ∀ w ∈ wsX10, w ∈ wsX5_expire := by decide +kernel
theorem hinX5_expire_X5 : ∀ w ∈ wsX50, w ∈ wsX5_expire := by decide +kernel
set_option maxHeartbeats 4000000 in
set_option maxRecDepth 100000 in
theorem c_X5_expire (l : Launch) (G : GG) (f : Wo) (al : Tg → Nat) (fi : Nat → Nat → Int32) (z : CZ) (hR : RC G al fi z f) (m : Nat) (hm : m < zN z 2) : Ct l yX5_expire wsX5_expire 11 202 G [.ref (al (15, 0)), .ref (al (2, m))] f (fun v9 f' => v9 = none ∧ RC G al (exF fi z m) (z) f' ∧ FrC f f') 0 0 := by
  refine Ct.of (cc := cX5_expire) (maxL := 3) (ret := none) (by decide) rfl (Nat.le_of_ble_eq_true rfl) (lv := [(0, _), (1, _)]) rfl (by simp [Value.category]) ?_
  intro K X hL hG hr hnm
  subst hL; subst hG
  have hF : FrC f f := FrC.rf
  have hN := hR.n1 (j := 0) (by decide)
  have hZ := hR.len (j := 0) (by decide)
  have L : ∀ (n i : Nat), zN z 0 - i = n → i ≤ zN z 0 → ∀ f1 : Wo, RC (kG K) al (exL (sndF (fu fi 13 m 2) 1 (zL z (12, m))) (zA z) (fi 14 m) (fi 12 m) i) z f1 → FrC f f1 → V K f1 0 0 6 [(0, .ref (al (15, 0))), (1, .ref (al (2, m))), (2, .int (nI i))] [] := by
    intro n
    induction n using Nat.strongRecOn with
    | ind n ih =>
      intro i hn hi f1 hR hF
      refine V_iload_n X rfl dX5_expire_6 ?_
      refine V_aload_n X rfl dX5_expire_7 ?_
      refine V_get X (T := TX5) (N := 5) (v := .ref _) 0 (hR.2.1 (15, 0) (dm15)) rfl hinX5_expire_X5 (by decide) (by decide +kernel) (fun _ h9 => h9) (rfl) dX5_expire_8 ?_
      refine V_csize X hR (rest := _) (13, 0) (dl13 (by decide)) gX5_expire_Jx4a65c_size_8abf5 (Nat.le_of_ble_eq_true rfl) (Nat.le_of_ble_eq_true rfl) (Nat.le_of_ble_eq_true rfl) dX5_expire_11 ?_
      refine V.top (y := nI (zN z 0)) (by rw [hR.len (by decide)]) ?_
      refine V_icmp_ge X (tgt := 53) (by decide) dX5_expire_14 (fun hc14 => ?_) (fun hc14 => ?_)
      · have hiN := lim_ge (N := zN z 0) rfl hc14 hi (by omega)
        exact V_vret X hr (⟨rfl, (by rw [hiN] at hR; exact hR), hF⟩) dX5_expire_53
      · have hlt := lim_lt (N := zN z 0) rfl hc14 hi (by omega)
        refine V_aload_n X rfl dX5_expire_17 ?_
        refine V_get X (T := TX1) (N := 7) (v := .int _) 6 (hR.2.1 (2, m) (dm2 hm)) rfl hinX5_expire_X1 (by decide) (by decide +kernel) (fun _ h9 => h9) (rfl) dX5_expire_18 ?_
        refine V.top (y := fi 14 m) ((exL_far _ _ _ _ (by omega) _ _).trans ((sndF_far _ _ _ (by omega) _).trans (fu_ne _ _ (Or.inl (by omega))))) ?_
        refine V_iload_n X rfl dX5_expire_21 ?_
        refine V_callSp X (rest := _) (c_X5_has _ _ _ _ _) gX5_expire_X5_has rfl hds_X5_has (Nat.le_of_ble_eq_true rfl) (Nat.le_of_ble_eq_true rfl) rfl (Nat.le_of_ble_eq_true rfl) dX5_expire_22 ?_
        refine V_if_eq X (tgt := 47) (by decide) dX5_expire_25 (fun hc25 => ?_) (fun hc25 => ?_)
        · refine V_iinc X (lv' := [(2, _), (0, _), (1, _)]) (v := nI (i + 1)) rfl (nI_1 _) (by decide) rfl dX5_expire_47 ?_
          refine V_goto X (tgt := 6) (by decide) dX5_expire_50 ?_
          refine V.lvs (lv' := [(0, _), (1, _), (2, _)]) rfl ?_
          exact ih (zN z 0 - (i + 1)) (by omega) (i + 1) rfl (by omega) _ (by rw [exL, if_neg (by rw [bI_eq0 hc25]; decide)]; exact hR) hF
        · refine V_aload_n X rfl dX5_expire_28 ?_
          refine V_get X (T := TX5) (N := 5) (v := .ref _) 0 (hR.2.1 (15, 0) (dm15)) rfl hinX5_expire_X5 (by decide) (by decide +kernel) (fun _ h9 => h9) (rfl) dX5_expire_29 ?_
          refine V_iload_n X rfl dX5_expire_32 ?_
          refine V_cnth X hR (rest := _) (13, 0) (dl13 (by decide)) (i) (i) (hR.main (by decide) hlt) gX5_expire_Jx4a65c_get_915e3 (Nat.le_of_ble_eq_true rfl) (Nat.le_of_ble_eq_true rfl) (Nat.le_of_ble_eq_true rfl) dX5_expire_33 ?_
          refine V_cast X (hR.2.1 (0, i) (dm0 hlt)) rfl (by decide +kernel) dX5_expire_36 ?_
          refine V_aload_n X rfl dX5_expire_39 ?_
          refine V_get X (T := TX1) (N := 7) (v := .int _) 3 (hR.2.1 (2, m) (dm2 hm)) rfl hinX5_expire_X1 (by decide) (by decide +kernel) (fun _ h9 => h9) (rfl) dX5_expire_40 ?_
          refine V.top (y := fi 12 m) ((exL_far _ _ _ _ (by omega) _ _).trans ((sndF_far _ _ _ (by omega) _).trans (fu_ne _ _ (Or.inl (by omega))))) ?_
          refine V_callV (kc' := 0) (ks' := 0) X (rest := _) (c_X3_penaliseAt _ _ _ al _ z hR i hlt (fi 12 m)) (hR.2.1 (0, i) (dm0 hlt)) rfl gX5_expire_X3_penaliseAt rfl hdv_X3_penaliseAt (Nat.le_of_ble_eq_true rfl) (Nat.le_of_ble_eq_true rfl) rfl (Nat.le_of_ble_eq_true rfl) (by omega) (by omega) dX5_expire_43 (fun r f1 hq => ?_)
          obtain ⟨rfl, hR, hF1⟩ := hq
          have hF := hF.trans hF1
          refine V_pop X rfl dX5_expire_46 ?_
          refine V_iinc X (lv' := [(2, _), (0, _), (1, _)]) (v := nI (i + 1)) rfl (nI_1 _) (by decide) rfl dX5_expire_47 ?_
          refine V_goto X (tgt := 6) (by decide) dX5_expire_50 ?_
          refine V.lvs (lv' := [(0, _), (1, _), (2, _)]) rfl ?_
          exact ih (zN z 0 - (i + 1)) (by omega) (i + 1) rfl (by omega) _ (by rw [exL, if_pos (bI_ne0 hc25)]; exact hR) hF
  refine V_aload_n X rfl dX5_expire_0 ?_
  refine V_callV (kc' := 0) (ks' := 0) X (rest := _) (c_X1_callOff _ _ _ al fi z hR m hm) (hR.2.1 (2, m) (dm2 hm)) rfl gX5_expire_X1_callOff rfl hdv_X1_callOff (Nat.le_of_ble_eq_true rfl) (Nat.le_of_ble_eq_true rfl) rfl (Nat.le_of_ble_eq_true rfl) (by omega) (by omega) dX5_expire_1 (fun r f1 hq => ?_)
  obtain ⟨rfl, hR, hF1⟩ := hq
  have hF := hF.trans hF1
  refine V_iconst X (v := 0) (by decide) dX5_expire_4 ?_
  refine V_istore_n X (lv' := [(2, _), (0, _), (1, _)]) (by decide) rfl dX5_expire_5 ?_
  refine V.lvs (lv' := [(0, _), (1, _), (2, _)]) rfl ?_
  exact L _ 0 rfl (Nat.zero_le _) _ hR hF
theorem hinX5_finish_X1 : ∀ w ∈ wsX10, w ∈ wsX5_finish := by decide +kernel
set_option maxHeartbeats 4000000 in
set_option maxRecDepth 100000 in
theorem c_X5_finish_t (l : Launch) (G : GG) (f : Wo) (al : Tg → Nat) (fi : Nat → Nat → Int32) (z : CZ) (hR : RC G al fi z f) (m : Nat) (hm : m < zN z 2) (x : Int32) (hx : x = 0 ∨ x = 1) (hs : fi 13 m = 1) : Ct l yX5_finish wsX5_finish 11 206 G [.ref (al (15, 0)), .int (nI m), .int x] f (fun v9 f' => v9 = none ∧ RC G al (fnF fi z m x) (z) f' ∧ FrC f f') 0 0 := by
  refine Ct.of (cc := cX5_finish) (maxL := 6) (ret := none) (by decide) rfl (Nat.le_of_ble_eq_true rfl) (lv := [(0, _), (1, _), (2, _)]) rfl (by simp [Value.category]) ?_
  intro K X hL hG hr hnm
  subst hL; subst hG
  have hF : FrC f f := FrC.rf
  refine V_aload_n X rfl dX5_finish_0 ?_
  refine V_iload_n X rfl dX5_finish_1 ?_
  refine V_callVp X (rest := _) (c_X5_existingMatch_t _ _ _ al fi z hR m hm) (hR.2.1 (15, 0) (dm15)) rfl gX5_finish_X5_existingMatch rfl hdv_X5_existingMatch (Nat.le_of_ble_eq_true rfl) (Nat.le_of_ble_eq_true rfl) rfl (Nat.le_of_ble_eq_true rfl) dX5_finish_2 ?_
  refine V_astore_n X (lv' := [(3, _), (0, _), (1, _), (2, _)]) (by decide) rfl dX5_finish_5 ?_
  refine V_iload_n X rfl dX5_finish_6 ?_
  refine V_callS (kc' := 0) (ks' := 0) X (rest := _) (c_X5_checkTeam_t _ _ _ x hx) gX5_finish_X5_checkTeam rfl hds_X5_checkTeam (Nat.le_of_ble_eq_true rfl) (Nat.le_of_ble_eq_true rfl) rfl (Nat.le_of_ble_eq_true rfl) (by omega) (by omega) dX5_finish_7 (fun r f1 hq => ?_)
  obtain ⟨rfl, rfl⟩ := hq
  refine V_aload_n X rfl dX5_finish_10 ?_
  refine V_get X (T := TX1) (N := 7) (v := .int _) 5 (hR.2.1 (2, m) (dm2 hm)) rfl hinX5_finish_X1 (by decide) (by decide +kernel) (fun _ h9 => h9) (rfl) dX5_finish_11 ?_
  refine V_iconst X (v := 1) (by decide) dX5_finish_14 ?_
  refine V_icmp_eq X (tgt := 28) (by decide) dX5_finish_15 (fun hc15 => ?_) (fun hc15 => absurd hc15 (not_not_intro hs))
  refine V_aload_n X rfl dX5_finish_28 ?_
  refine V_aload_n X rfl dX5_finish_29 ?_
  refine V_get X (T := TX1) (N := 7) (v := .int _) 0 (hR.2.1 (2, m) (dm2 hm)) rfl hinX5_finish_X1 (by decide) (by decide +kernel) (fun _ h9 => h9) (rfl) dX5_finish_30 ?_
  refine V_aload_n X rfl dX5_finish_33 ?_
  refine V_get X (T := TX1) (N := 7) (v := .int _) 1 (hR.2.1 (2, m) (dm2 hm)) rfl hinX5_finish_X1 (by decide) (by decide +kernel) (fun _ h9 => h9) (rfl) dX5_finish_34 ?_
  refine V_callVp X (rest := _) (c_X5_expectedShare _ _ _ al fi z hR (fi 9 m) (fi 10 m)) (hR.2.1 (15, 0) (dm15)) rfl gX5_finish_X5_expectedShare rfl hdv_X5_expectedShare (Nat.le_of_ble_eq_true rfl) (Nat.le_of_ble_eq_true rfl) rfl (Nat.le_of_ble_eq_true rfl) dX5_finish_37 ?_
  refine V_istore X (lv' := [(4, _), (3, _), (0, _), (1, _), (2, _)]) (by decide) rfl dX5_finish_40 ?_
  refine V_iload_n X rfl dX5_finish_42 ?_
  refine V_if_ne X (tgt := 52) (by decide) dX5_finish_43 (fun hc43 => ?_) (fun hc43 => ?_)
  · refine V_iconst X (v := 0) (by decide) dX5_finish_52 ?_
    refine V_iload X rfl dX5_finish_53 ?_
    refine V_isub X dX5_finish_55 ?_
    refine V.top (y := (if x = 0 then 1000 else 0) - shC fi (zN z 0) (fi 9 m) (fi 10 m)) (congrArg (· - shC fi (zN z 0) (fi 9 m) (fi 10 m)) (if_neg hc43).symm) ?_
    refine V_istore X (lv' := [(5, _), (4, _), (3, _), (0, _), (1, _), (2, _)]) (by decide) rfl dX5_finish_56 ?_
    refine V_aload_n X rfl dX5_finish_58 ?_
    refine V_aload_n X rfl dX5_finish_59 ?_
    refine V_get X (T := TX1) (N := 7) (v := .int _) 0 (hR.2.1 (2, m) (dm2 hm)) rfl hinX5_finish_X1 (by decide) (by decide +kernel) (fun _ h9 => h9) (rfl) dX5_finish_60 ?_
    refine V_iload X rfl dX5_finish_63 ?_
    refine V_callV (kc' := 0) (ks' := 0) X (rest := _) (c_X5_learn _ _ _ al _ z hR (fi 9 m) ((if x = 0 then 1000 else 0) - shC fi (zN z 0) (fi 9 m) (fi 10 m))) (hR.2.1 (15, 0) (dm15)) rfl gX5_finish_X5_learn rfl hdv_X5_learn (Nat.le_of_ble_eq_true rfl) (Nat.le_of_ble_eq_true rfl) rfl (Nat.le_of_ble_eq_true rfl) (by omega) (by omega) dX5_finish_65 (fun r f1 hq => ?_)
    obtain ⟨rfl, hR, hF1⟩ := hq
    have hF := hF.trans hF1
    refine V_aload_n X rfl dX5_finish_68 ?_
    refine V_aload_n X rfl dX5_finish_69 ?_
    refine V_get X (T := TX1) (N := 7) (v := .int _) 1 (hR.2.1 (2, m) (dm2 hm)) rfl hinX5_finish_X1 (by decide) (by decide +kernel) (fun _ h9 => h9) (rfl) dX5_finish_70 ?_
    refine V.top (y := fi 10 m) (lfF_far _ _ _ (by omega) _ _) ?_
    refine V_iload X rfl dX5_finish_73 ?_
    refine V_ineg X dX5_finish_75 ?_
    refine V_callV (kc' := 0) (ks' := 0) X (rest := _) (c_X5_learn _ _ _ al _ z hR (fi 10 m) _) (hR.2.1 (15, 0) (dm15)) rfl gX5_finish_X5_learn rfl hdv_X5_learn (Nat.le_of_ble_eq_true rfl) (Nat.le_of_ble_eq_true rfl) rfl (Nat.le_of_ble_eq_true rfl) (by omega) (by omega) dX5_finish_76 (fun r f1 hq => ?_)
    obtain ⟨rfl, hR, hF1⟩ := hq
    have hF := hF.trans hF1
    refine V_aload_n X rfl dX5_finish_79 ?_
    refine V_callV (kc' := 0) (ks' := 0) X (rest := _) (c_X1_end _ _ _ al _ z hR m hm) (hR.2.1 (2, m) (dm2 hm)) rfl gX5_finish_X1_end rfl hdv_X1_end (Nat.le_of_ble_eq_true rfl) (Nat.le_of_ble_eq_true rfl) rfl (Nat.le_of_ble_eq_true rfl) (by omega) (by omega) dX5_finish_80 (fun r f1 hq => ?_)
    obtain ⟨rfl, hR, hF1⟩ := hq
    have hF := hF.trans hF1
    exact V_vret X hr (⟨rfl, hR, hF⟩) dX5_finish_83
  · refine V_sipush X (v := 1000) (by decide) dX5_finish_46 ?_
    refine V_goto X (tgt := 53) (by decide) dX5_finish_49 ?_
    refine V_iload X rfl dX5_finish_53 ?_
    refine V_isub X dX5_finish_55 ?_
    refine V.top (y := (if x = 0 then 1000 else 0) - shC fi (zN z 0) (fi 9 m) (fi 10 m)) (congrArg (· - shC fi (zN z 0) (fi 9 m) (fi 10 m)) (if_pos hc43).symm) ?_
    refine V_istore X (lv' := [(5, _), (4, _), (3, _), (0, _), (1, _), (2, _)]) (by decide) rfl dX5_finish_56 ?_
    refine V_aload_n X rfl dX5_finish_58 ?_
    refine V_aload_n X rfl dX5_finish_59 ?_
    refine V_get X (T := TX1) (N := 7) (v := .int _) 0 (hR.2.1 (2, m) (dm2 hm)) rfl hinX5_finish_X1 (by decide) (by decide +kernel) (fun _ h9 => h9) (rfl) dX5_finish_60 ?_
    refine V_iload X rfl dX5_finish_63 ?_
    refine V_callV (kc' := 0) (ks' := 0) X (rest := _) (c_X5_learn _ _ _ al _ z hR (fi 9 m) ((if x = 0 then 1000 else 0) - shC fi (zN z 0) (fi 9 m) (fi 10 m))) (hR.2.1 (15, 0) (dm15)) rfl gX5_finish_X5_learn rfl hdv_X5_learn (Nat.le_of_ble_eq_true rfl) (Nat.le_of_ble_eq_true rfl) rfl (Nat.le_of_ble_eq_true rfl) (by omega) (by omega) dX5_finish_65 (fun r f1 hq => ?_)
    obtain ⟨rfl, hR, hF1⟩ := hq
    have hF := hF.trans hF1
    refine V_aload_n X rfl dX5_finish_68 ?_
    refine V_aload_n X rfl dX5_finish_69 ?_
    refine V_get X (T := TX1) (N := 7) (v := .int _) 1 (hR.2.1 (2, m) (dm2 hm)) rfl hinX5_finish_X1 (by decide) (by decide +kernel) (fun _ h9 => h9) (rfl) dX5_finish_70 ?_
    refine V.top (y := fi 10 m) (lfF_far _ _ _ (by omega) _ _) ?_
    refine V_iload X rfl dX5_finish_73 ?_
    refine V_ineg X dX5_finish_75 ?_
    refine V_callV (kc' := 0) (ks' := 0) X (rest := _) (c_X5_learn _ _ _ al _ z hR (fi 10 m) _) (hR.2.1 (15, 0) (dm15)) rfl gX5_finish_X5_learn rfl hdv_X5_learn (Nat.le_of_ble_eq_true rfl) (Nat.le_of_ble_eq_true rfl) rfl (Nat.le_of_ble_eq_true rfl) (by omega) (by omega) dX5_finish_76 (fun r f1 hq => ?_)
    obtain ⟨rfl, hR, hF1⟩ := hq
    have hF := hF.trans hF1
    refine V_aload_n X rfl dX5_finish_79 ?_
    refine V_callV (kc' := 0) (ks' := 0) X (rest := _) (c_X1_end _ _ _ al _ z hR m hm) (hR.2.1 (2, m) (dm2 hm)) rfl gX5_finish_X1_end rfl hdv_X1_end (Nat.le_of_ble_eq_true rfl) (Nat.le_of_ble_eq_true rfl) rfl (Nat.le_of_ble_eq_true rfl) (by omega) (by omega) dX5_finish_80 (fun r f1 hq => ?_)
    obtain ⟨rfl, hR, hF1⟩ := hq
    have hF := hF.trans hF1
    exact V_vret X hr (⟨rfl, hR, hF⟩) dX5_finish_83
set_option maxHeartbeats 4000000 in
set_option maxRecDepth 100000 in
theorem c_X5_finish_x (l : Launch) (hl : l.stackTraces = false) (G : GG) (f : Wo) (al : Tg → Nat) (fi : Nat → Nat → Int32) (z : CZ) (hR : RC G al fi z f) (i x : Int32) (h : i < 0 ∨ nI (zN z 2) ≤ i) : Cx l yX5_finish wsX5_finish 11 206 G [.ref (al (15, 0)), .int i, .int x] f (fun _ _ => False) (fun E f' => E = "java/lang/IndexOutOfBoundsException" ∧ f' = f) 1 6 := by
  refine Cx.of (cc := cX5_finish) (maxL := 6) (ret := none) (by decide) rfl (Nat.le_of_ble_eq_true rfl) (lv := [(0, _), (1, _), (2, _)]) rfl (by simp [Value.category]) ?_
  intro K X hL hG hr hT
  subst hL; subst hG
  refine V_aload_n X rfl dX5_finish_0 ?_
  refine V_iload_n X rfl dX5_finish_1 ?_
  refine V_callVX (kc' := 0) (ks' := 0) X (rest := _) (c_X5_existingMatch_x _ hl _ _ al fi z hR i h) (hR.2.1 (15, 0) (dm15)) rfl gX5_finish_X5_existingMatch rfl hdv_X5_existingMatch (Nat.le_of_ble_eq_true rfl) (Nat.le_of_ble_eq_true rfl) rfl (Nat.le_of_ble_eq_true rfl) (by omega) (by omega) dX5_finish_2 (fun E f1 hq => ?_) (fun r f1 hq => hq.elim)
  obtain ⟨rfl, rfl⟩ := hq
  exact VX_out X hT ⟨rfl, rfl⟩
set_option maxHeartbeats 4000000 in
set_option maxRecDepth 100000 in
theorem c_X5_finish_a (l : Launch) (hl : l.stackTraces = false) (G : GG) (f : Wo) (al : Tg → Nat) (fi : Nat → Nat → Int32) (z : CZ) (hR : RC G al fi z f) (m : Nat) (hm : m < zN z 2) (x : Int32) (hx : ¬ (x = 0 ∨ x = 1)) : Cx l yX5_finish wsX5_finish 11 206 G [.ref (al (15, 0)), .int (nI m), .int x] f (fun _ _ => False) (fun E f' => E = "java/lang/IllegalArgumentException" ∧ f' = f) 1 6 := by
  refine Cx.of (cc := cX5_finish) (maxL := 6) (ret := none) (by decide) rfl (Nat.le_of_ble_eq_true rfl) (lv := [(0, _), (1, _), (2, _)]) rfl (by simp [Value.category]) ?_
  intro K X hL hG hr hT
  subst hL; subst hG
  refine V_aload_n X rfl dX5_finish_0 ?_
  refine V_iload_n X rfl dX5_finish_1 ?_
  refine V_callVp X (rest := _) (c_X5_existingMatch_t _ _ _ al fi z hR m hm) (hR.2.1 (15, 0) (dm15)) rfl gX5_finish_X5_existingMatch rfl hdv_X5_existingMatch (Nat.le_of_ble_eq_true rfl) (Nat.le_of_ble_eq_true rfl) rfl (Nat.le_of_ble_eq_true rfl) dX5_finish_2 ?_
  refine V_astore_n X (lv' := [(3, _), (0, _), (1, _), (2, _)]) (by decide) rfl dX5_finish_5 ?_
  refine V_iload_n X rfl dX5_finish_6 ?_
  refine V_callSX (kc' := 0) (ks' := 0) X (rest := _) (c_X5_checkTeam_x _ hl _ _ x hx) gX5_finish_X5_checkTeam rfl hds_X5_checkTeam (Nat.le_of_ble_eq_true rfl) (Nat.le_of_ble_eq_true rfl) rfl (Nat.le_of_ble_eq_true rfl) (by omega) (by omega) dX5_finish_7 (fun E f1 hq => ?_) (fun r f1 hq => hq.elim)
  obtain ⟨rfl, rfl⟩ := hq
  exact VX_out X hT ⟨rfl, rfl⟩
set_option maxHeartbeats 4000000 in
set_option maxRecDepth 100000 in
theorem c_X5_finish_s (l : Launch) (hl : l.stackTraces = false) (G : GG) (f : Wo) (al : Tg → Nat) (fi : Nat → Nat → Int32) (z : CZ) (hR : RC G al fi z f) (m : Nat) (hm : m < zN z 2) (x : Int32) (hx : x = 0 ∨ x = 1) (hs : fi 13 m ≠ 1) : Cx l yX5_finish wsX5_finish 11 206 G [.ref (al (15, 0)), .int (nI m), .int x] f (fun _ _ => False) (fun E f' => E = "java/lang/IllegalStateException" ∧ f' = f) 1 6 := by
  refine Cx.of (cc := cX5_finish) (maxL := 6) (ret := none) (by decide) rfl (Nat.le_of_ble_eq_true rfl) (lv := [(0, _), (1, _), (2, _)]) rfl (by simp [Value.category]) ?_
  intro K X hL hG hr hT
  subst hL; subst hG
  refine V_aload_n X rfl dX5_finish_0 ?_
  refine V_iload_n X rfl dX5_finish_1 ?_
  refine V_callVp X (rest := _) (c_X5_existingMatch_t _ _ _ al fi z hR m hm) (hR.2.1 (15, 0) (dm15)) rfl gX5_finish_X5_existingMatch rfl hdv_X5_existingMatch (Nat.le_of_ble_eq_true rfl) (Nat.le_of_ble_eq_true rfl) rfl (Nat.le_of_ble_eq_true rfl) dX5_finish_2 ?_
  refine V_astore_n X (lv' := [(3, _), (0, _), (1, _), (2, _)]) (by decide) rfl dX5_finish_5 ?_
  refine V_iload_n X rfl dX5_finish_6 ?_
  refine V_callS (kc' := 1) (ks' := 6) X (rest := _) (c_X5_checkTeam_t _ _ _ x hx) gX5_finish_X5_checkTeam rfl hds_X5_checkTeam (Nat.le_of_ble_eq_true rfl) (Nat.le_of_ble_eq_true rfl) rfl (Nat.le_of_ble_eq_true rfl) (by omega) (by omega) dX5_finish_7 (fun r f1 hq => ?_)
  obtain ⟨rfl, rfl⟩ := hq
  refine V_aload_n X rfl dX5_finish_10 ?_
  refine V_get X (T := TX1) (N := 7) (v := .int _) 5 (hR.2.1 (2, m) (dm2 hm)) rfl hinX5_finish_X1 (by decide) (by decide +kernel) (fun _ h9 => h9) (rfl) dX5_finish_11 ?_
  refine V_iconst X (v := 1) (by decide) dX5_finish_14 ?_
  refine V_icmp_eq X (tgt := 28) (by decide) dX5_finish_15 (fun hc15 => absurd hc15 (hs)) (fun hc15 => ?_)
  exact V_throwS X hl hT "java/lang/IllegalStateException" "the match does not go on" 44 168 48 ⟨rfl, rfl⟩ (by decide +kernel) (by decide +kernel) (by decide +kernel) (by decide) (by decide +kernel) xg_is xo_is dX5_finish_18 dX5_finish_21 dX5_finish_22 dX5_finish_24 dX5_finish_27 (Nat.le_of_ble_eq_true rfl) (Nat.le_of_ble_eq_true rfl) (by omega) (by omega)
theorem psL_t {fi : Nat → Nat → Int32} {z : CZ} {n : Nat} (h : (psL fi z n).2 13 n = 0 ∧ (psL fi z n).2 12 n ≤ (psL fi z n).2 18 0) : psL fi z (n + 1) = ((psL fi z n).1 + 1, exF (psL fi z n).2 z n) := if_pos h
theorem psL_f {fi : Nat → Nat → Int32} {z : CZ} {n : Nat} (h : ¬ ((psL fi z n).2 13 n = 0 ∧ (psL fi z n).2 12 n ≤ (psL fi z n).2 18 0)) : psL fi z (n + 1) = psL fi z n := if_neg h
theorem hinX5_pass_X1 : ∀ w ∈ wsX10, w ∈ wsX5_pass := by decide +kernel
theorem hinX5_pass_X5 : ∀ w ∈ wsX50, w ∈ wsX5_pass := by decide +kernel
set_option maxHeartbeats 4000000 in
set_option maxRecDepth 100000 in
theorem c_X5_pass_t (l : Launch) (G : GG) (f : Wo) (al : Tg → Nat) (fi : Nat → Nat → Int32) (z : CZ) (hR : RC G al fi z f) (x : Int32) (h1 : 1 ≤ x) (h2 : x ≤ 1000) (h3 : x ≤ 100000 - fi 18 0) : Ct l yX5_pass wsX5_pass 12 224 G [.ref (al (15, 0)), .int x] f (fun v9 f' => v9 = some (.int (psL (fu fi 18 0 (fi 18 0 + x)) z (zN z 2)).1) ∧ RC G al ((psL (fu fi 18 0 (fi 18 0 + x)) z (zN z 2)).2) (z) f' ∧ FrC f f') 0 0 := by
  refine Ct.of (cc := cX5_pass) (maxL := 5) (ret := (some .int)) (by decide) rfl (Nat.le_of_ble_eq_true rfl) (lv := [(0, _), (1, _)]) rfl (by simp [Value.category]) ?_
  intro K X hL hG hr hnm
  subst hL; subst hG
  have hF : FrC f f := FrC.rf
  have hN := hR.n1 (j := 2) (by decide)
  have hZ := hR.len (j := 2) (by decide)
  have L : ∀ (n i : Nat), zN z 2 - i = n → i ≤ zN z 2 → ∀ f1 : Wo, RC (kG K) al (psL (fu fi 18 0 (fi 18 0 + x)) z i).2 z f1 → FrC f f1 → V K f1 0 0 57 [(0, .ref (al (15, 0))), (1, .int x), (2, .int (psL (fu fi 18 0 (fi 18 0 + x)) z i).1), (3, .int (nI i))] [] := by
    intro n
    induction n using Nat.strongRecOn with
    | ind n ih =>
      intro i hn hi f1 hR hF
      refine V_iload_n X rfl dX5_pass_57 ?_
      refine V_aload_n X rfl dX5_pass_58 ?_
      refine V_get X (T := TX5) (N := 5) (v := .ref _) 2 (hR.2.1 (15, 0) (dm15)) rfl hinX5_pass_X5 (by decide) (by decide +kernel) (fun _ h9 => h9) (rfl) dX5_pass_59 ?_
      refine V_csize X hR (rest := _) (13, 2) (dl13 (by decide)) gX5_pass_Jx4a65c_size_8abf5 (Nat.le_of_ble_eq_true rfl) (Nat.le_of_ble_eq_true rfl) (Nat.le_of_ble_eq_true rfl) dX5_pass_62 ?_
      refine V.top (y := nI (zN z 2)) (by rw [hR.len (by decide)]) ?_
      refine V_icmp_ge X (tgt := 116) (by decide) dX5_pass_65 (fun hc65 => ?_) (fun hc65 => ?_)
      · have hiN := lim_ge (N := zN z 2) rfl hc65 hi (by omega)
        refine V_iload_n X rfl dX5_pass_116 ?_
        exact V_iret X hr (⟨by rw [hiN], (by rw [hiN] at hR; exact hR), hF⟩) dX5_pass_117
      · have hlt := lim_lt (N := zN z 2) rfl hc65 hi (by omega)
        refine V_aload_n X rfl dX5_pass_68 ?_
        refine V_get X (T := TX5) (N := 5) (v := .ref _) 2 (hR.2.1 (15, 0) (dm15)) rfl hinX5_pass_X5 (by decide) (by decide +kernel) (fun _ h9 => h9) (rfl) dX5_pass_69 ?_
        refine V_iload_n X rfl dX5_pass_72 ?_
        refine V_cnth X hR (rest := _) (13, 2) (dl13 (by decide)) (i) (i) (hR.main (by decide) hlt) gX5_pass_Jx4a65c_get_915e3 (Nat.le_of_ble_eq_true rfl) (Nat.le_of_ble_eq_true rfl) (Nat.le_of_ble_eq_true rfl) dX5_pass_73 ?_
        refine V_cast X (hR.2.1 (2, i) (dm2 hlt)) rfl (by decide +kernel) dX5_pass_76 ?_
        refine V_astore X (lv' := [(4, _), (0, _), (1, _), (2, _), (3, _)]) (by decide) rfl dX5_pass_79 ?_
        refine V_aload X rfl dX5_pass_81 ?_
        refine V_get X (T := TX1) (N := 7) (v := .int _) 5 (hR.2.1 (2, i) (dm2 hlt)) rfl hinX5_pass_X1 (by decide) (by decide +kernel) (fun _ h9 => h9) (rfl) dX5_pass_83 ?_
        refine V_if_ne X (tgt := 110) (by decide) dX5_pass_86 (fun hc86 => ?_) (fun hc86 => ?_)
        · refine V_iinc X (lv' := [(3, _), (4, _), (0, _), (1, _), (2, _)]) (v := nI (i + 1)) rfl (nI_1 _) (by decide) rfl dX5_pass_110 ?_
          refine V_goto X (tgt := 57) (by decide) dX5_pass_113 ?_
          refine V.lvs (lv' := [(0, _), (1, _), (2, _), (3, _)]) rfl ?_
          have e9 : (psL (fu fi 18 0 (fi 18 0 + x)) z i).1 = (psL (fu fi 18 0 (fi 18 0 + x)) z (i + 1)).1 := by rw [psL_f (fun q => hc86 q.1)]
          rw [e9]
          exact ih (zN z 2 - (i + 1)) (by omega) (i + 1) rfl (by omega) _ (by rw [psL_f (fun q => hc86 q.1)]; exact hR) hF
        · refine V_aload X rfl dX5_pass_89 ?_
          refine V_get X (T := TX1) (N := 7) (v := .int _) 3 (hR.2.1 (2, i) (dm2 hlt)) rfl hinX5_pass_X1 (by decide) (by decide +kernel) (fun _ h9 => h9) (rfl) dX5_pass_91 ?_
          refine V_aload_n X rfl dX5_pass_94 ?_
          refine V_get X (T := TX5) (N := 5) (v := .int _) 4 (hR.2.1 (15, 0) (dm15)) rfl hinX5_pass_X5 (by decide) (by decide +kernel) (fun _ h9 => h9) (rfl) dX5_pass_95 ?_
          refine V_icmp_gt X (tgt := 110) (by decide) dX5_pass_98 (fun hc98 => ?_) (fun hc98 => ?_)
          · refine V_iinc X (lv' := [(3, _), (4, _), (0, _), (1, _), (2, _)]) (v := nI (i + 1)) rfl (nI_1 _) (by decide) rfl dX5_pass_110 ?_
            refine V_goto X (tgt := 57) (by decide) dX5_pass_113 ?_
            refine V.lvs (lv' := [(0, _), (1, _), (2, _), (3, _)]) rfl ?_
            have e9 : (psL (fu fi 18 0 (fi 18 0 + x)) z i).1 = (psL (fu fi 18 0 (fi 18 0 + x)) z (i + 1)).1 := by rw [psL_f (fun q => absurd q.2 (Int32.not_le.mpr hc98))]
            rw [e9]
            exact ih (zN z 2 - (i + 1)) (by omega) (i + 1) rfl (by omega) _ (by rw [psL_f (fun q => absurd q.2 (Int32.not_le.mpr hc98))]; exact hR) hF
          · refine V_aload_n X rfl dX5_pass_101 ?_
            refine V_aload X rfl dX5_pass_102 ?_
            refine V_callV (kc' := 0) (ks' := 0) X (rest := _) (c_X5_expire _ _ _ al _ z hR i hlt) (hR.2.1 (15, 0) (dm15)) rfl gX5_pass_X5_expire rfl hdv_X5_expire (Nat.le_of_ble_eq_true rfl) (Nat.le_of_ble_eq_true rfl) rfl (Nat.le_of_ble_eq_true rfl) (by omega) (by omega) dX5_pass_104 (fun r f1 hq => ?_)
            obtain ⟨rfl, hR, hF1⟩ := hq
            have hF := hF.trans hF1
            refine V_iinc X (lv' := [(2, _), (4, _), (0, _), (1, _), (3, _)]) (v := (psL (fu fi 18 0 (fi 18 0 + x)) z i).1 + 1) rfl (rfl) (by decide) rfl dX5_pass_107 ?_
            refine V_iinc X (lv' := [(3, _), (2, _), (4, _), (0, _), (1, _)]) (v := nI (i + 1)) rfl (nI_1 _) (by decide) rfl dX5_pass_110 ?_
            refine V_goto X (tgt := 57) (by decide) dX5_pass_113 ?_
            refine V.lvs (lv' := [(0, _), (1, _), (2, _), (3, _)]) rfl ?_
            have e9 : (psL (fu fi 18 0 (fi 18 0 + x)) z i).1 + 1 = (psL (fu fi 18 0 (fi 18 0 + x)) z (i + 1)).1 := by rw [psL_t ⟨hc86, Int32.not_lt.mp hc98⟩]
            rw [e9]
            exact ih (zN z 2 - (i + 1)) (by omega) (i + 1) rfl (by omega) _ (by rw [psL_t ⟨hc86, Int32.not_lt.mp hc98⟩]; exact hR) hF
  refine V_iload_n X rfl dX5_pass_0 ?_
  refine V_iconst X (v := 1) (by decide) dX5_pass_1 ?_
  refine V_icmp_lt X (tgt := 12) (by decide) dX5_pass_2 (fun hc2 => absurd hc2 (Int32.not_lt.mpr h1)) (fun hc2 => ?_)
  refine V_iload_n X rfl dX5_pass_5 ?_
  refine V_sipush X (v := 1000) (by decide) dX5_pass_6 ?_
  refine V_icmp_le X (tgt := 22) (by decide) dX5_pass_9 (fun hc9 => ?_) (fun hc9 => absurd hc9 (not_not_intro h2))
  refine V_iload_n X rfl dX5_pass_22 ?_
  refine V_ldc X (v := 100000) (by decide +kernel) dX5_pass_23 ?_
  refine V_aload_n X rfl dX5_pass_25 ?_
  refine V_get X (T := TX5) (N := 5) (v := .int _) 4 (hR.2.1 (15, 0) (dm15)) rfl hinX5_pass_X5 (by decide) (by decide +kernel) (fun _ h9 => h9) (rfl) dX5_pass_26 ?_
  refine V_isub X dX5_pass_29 ?_
  refine V_icmp_le X (tgt := 43) (by decide) dX5_pass_30 (fun hc30 => ?_) (fun hc30 => absurd hc30 (not_not_intro h3))
  refine V_aload_n X rfl dX5_pass_43 ?_
  refine V_dup X rfl dX5_pass_44 ?_
  refine V_get X (T := TX5) (N := 5) (v := .int _) 4 (hR.2.1 (15, 0) (dm15)) rfl hinX5_pass_X5 (by decide) (by decide +kernel) (fun _ h9 => h9) (rfl) dX5_pass_45 ?_
  refine V_iload_n X rfl dX5_pass_48 ?_
  refine V_iadd X dX5_pass_49 ?_
  refine V_cput X hR hF (T := TX5) (N := 5) 18 0 4 (dm15) rfl hinX5_pass_X5 tyX5_ok nmX5 (by decide) (by decide +kernel) (fun _ h9 => h9) rfl rfl (Nat.le_of_ble_eq_true rfl) (fst_18 _ _ _ _ _) dX5_pass_50 (fun f hR hF => ?_)
  refine V_iconst X (v := 0) (by decide) dX5_pass_53 ?_
  refine V_istore_n X (lv' := [(2, _), (0, _), (1, _)]) (by decide) rfl dX5_pass_54 ?_
  refine V_iconst X (v := 0) (by decide) dX5_pass_55 ?_
  refine V_istore_n X (lv' := [(3, _), (2, _), (0, _), (1, _)]) (by decide) rfl dX5_pass_56 ?_
  refine V.lvs (lv' := [(0, _), (1, _), (2, _), (3, _)]) rfl ?_
  exact L _ 0 rfl (Nat.zero_le _) _ hR hF
set_option maxHeartbeats 4000000 in
set_option maxRecDepth 100000 in
theorem c_X5_pass_x (l : Launch) (hl : l.stackTraces = false) (G : GG) (f : Wo) (al : Tg → Nat) (fi : Nat → Nat → Int32) (z : CZ) (hR : RC G al fi z f) (x : Int32) (h : x < 1 ∨ 1000 < x) : Cx l yX5_pass wsX5_pass 12 224 G [.ref (al (15, 0)), .int x] f (fun _ _ => False) (fun E f' => E = "java/lang/IllegalArgumentException" ∧ f' = f) 1 6 := by
  refine Cx.of (cc := cX5_pass) (maxL := 5) (ret := (some .int)) (by decide) rfl (Nat.le_of_ble_eq_true rfl) (lv := [(0, _), (1, _)]) rfl (by simp [Value.category]) ?_
  intro K X hL hG hr hT
  subst hL; subst hG
  refine V_iload_n X rfl dX5_pass_0 ?_
  refine V_iconst X (v := 1) (by decide) dX5_pass_1 ?_
  refine V_icmp_lt X (tgt := 12) (by decide) dX5_pass_2 (fun hc2 => ?_) (fun hc2 => ?_)
  · exact V_throwS X hl hT "java/lang/IllegalArgumentException" "minutes out of range" 33 188 37 ⟨rfl, rfl⟩ (by decide +kernel) (by decide +kernel) (by decide +kernel) (by decide) (by decide +kernel) xg_ia xo_ia dX5_pass_12 dX5_pass_15 dX5_pass_16 dX5_pass_18 dX5_pass_21 (Nat.le_of_ble_eq_true rfl) (Nat.le_of_ble_eq_true rfl) (by omega) (by omega)
  · refine V_iload_n X rfl dX5_pass_5 ?_
    refine V_sipush X (v := 1000) (by decide) dX5_pass_6 ?_
    refine V_icmp_le X (tgt := 22) (by decide) dX5_pass_9 (fun hc9 => ?_) (fun hc9 => ?_)
    · exact absurd h (fun q => q.elim hc2 (fun q => absurd hc9 (Int32.not_le.mpr q)))
    · exact V_throwS X hl hT "java/lang/IllegalArgumentException" "minutes out of range" 33 188 37 ⟨rfl, rfl⟩ (by decide +kernel) (by decide +kernel) (by decide +kernel) (by decide) (by decide +kernel) xg_ia xo_ia dX5_pass_12 dX5_pass_15 dX5_pass_16 dX5_pass_18 dX5_pass_21 (Nat.le_of_ble_eq_true rfl) (Nat.le_of_ble_eq_true rfl) (by omega) (by omega)
set_option maxHeartbeats 4000000 in
set_option maxRecDepth 100000 in
theorem c_X5_pass_s (l : Launch) (hl : l.stackTraces = false) (G : GG) (f : Wo) (al : Tg → Nat) (fi : Nat → Nat → Int32) (z : CZ) (hR : RC G al fi z f) (x : Int32) (h1 : 1 ≤ x) (h2 : x ≤ 1000) (h3 : ¬ x ≤ 100000 - fi 18 0) : Cx l yX5_pass wsX5_pass 12 224 G [.ref (al (15, 0)), .int x] f (fun _ _ => False) (fun E f' => E = "java/lang/IllegalStateException" ∧ f' = f) 1 6 := by
  refine Cx.of (cc := cX5_pass) (maxL := 5) (ret := (some .int)) (by decide) rfl (Nat.le_of_ble_eq_true rfl) (lv := [(0, _), (1, _)]) rfl (by simp [Value.category]) ?_
  intro K X hL hG hr hT
  subst hL; subst hG
  refine V_iload_n X rfl dX5_pass_0 ?_
  refine V_iconst X (v := 1) (by decide) dX5_pass_1 ?_
  refine V_icmp_lt X (tgt := 12) (by decide) dX5_pass_2 (fun hc2 => absurd hc2 (Int32.not_lt.mpr h1)) (fun hc2 => ?_)
  refine V_iload_n X rfl dX5_pass_5 ?_
  refine V_sipush X (v := 1000) (by decide) dX5_pass_6 ?_
  refine V_icmp_le X (tgt := 22) (by decide) dX5_pass_9 (fun hc9 => ?_) (fun hc9 => absurd hc9 (not_not_intro h2))
  refine V_iload_n X rfl dX5_pass_22 ?_
  refine V_ldc X (v := 100000) (by decide +kernel) dX5_pass_23 ?_
  refine V_aload_n X rfl dX5_pass_25 ?_
  refine V_get X (T := TX5) (N := 5) (v := .int _) 4 (hR.2.1 (15, 0) (dm15)) rfl hinX5_pass_X5 (by decide) (by decide +kernel) (fun _ h9 => h9) (rfl) dX5_pass_26 ?_
  refine V_isub X dX5_pass_29 ?_
  refine V_icmp_le X (tgt := 43) (by decide) dX5_pass_30 (fun hc30 => absurd hc30 (h3)) (fun hc30 => ?_)
  exact V_throwS X hl hT "java/lang/IllegalStateException" "the clock would be too high" 44 191 48 ⟨rfl, rfl⟩ (by decide +kernel) (by decide +kernel) (by decide +kernel) (by decide) (by decide +kernel) xg_is xo_is dX5_pass_33 dX5_pass_36 dX5_pass_37 dX5_pass_39 dX5_pass_42 (Nat.le_of_ble_eq_true rfl) (Nat.le_of_ble_eq_true rfl) (by omega) (by omega)
