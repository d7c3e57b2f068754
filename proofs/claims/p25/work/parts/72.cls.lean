/-! ===== findWith from findAfter ===== -/
theorem fwF_1 (z : CZ) (d : Nat) (fi : Nat → Nat → Int32) (S : List Nat) (i P : Nat) (ct : Int32) : fwF z (d + 1) fi S i P ct = if i < (zL z (13, 3)).length ∧ P < 6 then (if P + (zL z (11, (zL z (13, 3)).getD i 0)).length ≤ 6 ∧ sfB (ct + fi 8 ((zL z (13, 3)).getD i 0)) 2 = true then ndF S (if P + (zL z (11, (zL z (13, 3)).getD i 0)).length = 6 then (decide (spF fi (zPut z (13, 4) (S ++ [(zL z (13, 3)).getD i 0]) 0) 17 0 ≠ -1), spF fi (zPut z (13, 4) (S ++ [(zL z (13, 3)).getD i 0]) 0), S ++ [(zL z (13, 3)).getD i 0]) else itF (fun g T k => fwF z d g T k (P + (zL z (11, (zL z (13, 3)).getD i 0)).length) (ct + fi 8 ((zL z (13, 3)).getD i 0))) ((zL z (13, 3)).length - (i + 1)) fi (S ++ [(zL z (13, 3)).getD i 0]) (i + 1)) else (false, fi, S)) else (false, fi, S) := by
  rw [fwF]
theorem cap_k {c n : Nat} (hc : c = 0 ∨ 10 ≤ c) (h : n ≤ c) (h6 : n < 6) : adC c n ≤ kF c ∧ adS c n ≤ sF c ∧ c ≤ cap2 c n ∧ 10 ≤ cap2 c n ∧ cap2 c n ≤ max c 10 := by
  unfold adC adS cap2 kF sF ncap
  rcases hc with rfl | hc
  · have : n = 0 := by omega
    subst this
    decide
  · rw [if_pos (show n < c by omega), if_pos (show n < c by omega), if_pos (show n < c by omega)]
    omega
theorem hinX0_findWith_X0 : ∀ w ∈ wsX00, w ∈ wsX0_findWith := by decide +kernel
set_option maxHeartbeats 8000000 in
set_option maxRecDepth 100000 in
theorem fw_0 (l : Launch) (G : GG) : FWc l G 0 := by
  intro f al fi z S c i P ct hR hD hS hP hd hc hi0
  refine Ct.of (cc := cX0_findWith) (maxL := 7) (ret := (some .boolean)) (by decide) rfl (Nat.le_of_ble_eq_true rfl) (lv := [(0, _), (1, _), (2, _), (3, _)]) rfl (by simp [Value.category]) ?_
  intro K X hL hG hr hnm
  subst hL; subst hG
  have hF : FrC f f := FrC.rf
  have hL := (hR.cap (dl13 (n := zN z) (k := 3) (by decide))).1
  have hL2 := (hR.cap (dl13 (n := zN z) (k := 3) (by decide))).2
  have hL4 := (hR.cap (dl13 (n := zN z) (k := 4) (by decide))).2
  rw [zL_put, zC_put] at hL4
  have hL5 := (hR.cap (dl13 (n := zN z) (k := 4) (by decide))).1
  rw [zC_put] at hL5
  have hZ3 : zL (zPut z (13, 4) S c) (13, 3) = zL z (13, 3) := tu_n (zL z) (p := (13, 3)) (q := (13, 4)) S (by decide)
  rw [hZ3] at hL2
  refine V_iload_n X rfl dX0_findWith_0 ?_
  refine V_if_lt X (tgt := 21) (by decide) dX0_findWith_1 (fun hc1 => absurd hc1 (nI_pos (by omega))) (fun hc1 => ?_)
  refine V_iload_n X rfl dX0_findWith_4 ?_
  refine V_aload_n X rfl dX0_findWith_5 ?_
  refine V_get X (T := TX0) (N := 5) (v := .ref _) 0 (hR.2.1 (14, 0) (dm14)) rfl hinX0_findWith_X0 (by decide) (by decide +kernel) (fun _ h9 => h9) (rfl) dX0_findWith_6 ?_
  refine V_csize X hR (rest := _) (13, 3) (dl13 (by decide)) gX0_findWith_Jx4a65c_size_8abf5 (by omega) (by omega) (Nat.le_of_ble_eq_true rfl) dX0_findWith_9 ?_
  refine V.top (y := nI (zL z (13, 3)).length) (by rw [hZ3]) ?_
  refine V_icmp_ge X (tgt := 21) (by decide) dX0_findWith_12 (fun hc12 => ?_) (fun hc12 => ?_)
  · refine V_iconst X (v := 0) (by decide) dX0_findWith_21 ?_
    exact V_zret X hr (by decide) (⟨c, Nat.le_refl _, hc, by omega, bI_f (by rw [show fwF z 0 fi S i P ct = (false, fi, S) from rfl]), (by rw [show fwF z 0 fi S i P ct = (false, fi, S) from rfl]; exact hR), hF⟩) dX0_findWith_22
  · refine V_iload_n X rfl dX0_findWith_15 ?_
    refine V_bipush X (v := 6) (by decide) dX0_findWith_16 ?_
    refine V_icmp_lt X (tgt := 23) (by decide) dX0_findWith_18 (fun hc18 => absurd hc18 (nI_nlt (b := 6) (by omega) (by omega))) (fun hc18 => ?_)
    refine V_iconst X (v := 0) (by decide) dX0_findWith_21 ?_
    exact V_zret X hr (by decide) (⟨c, Nat.le_refl _, hc, by omega, bI_f (by rw [show fwF z 0 fi S i P ct = (false, fi, S) from rfl]), (by rw [show fwF z 0 fi S i P ct = (false, fi, S) from rfl]; exact hR), hF⟩) dX0_findWith_22
theorem hinX0_findWith_X2 : ∀ w ∈ wsX20, w ∈ wsX0_findWith := by decide +kernel
set_option maxHeartbeats 8000000 in
set_option maxRecDepth 100000 in
theorem fw_1 (l : Launch) (G : GG) (d : Nat) (hA : FAc l G d) : FWc l G (d + 1) := by
  intro f al fi z S c i P ct hR hD hS hP hd hc hi0
  refine Ct.of (cc := cX0_findWith) (maxL := 7) (ret := (some .boolean)) (by decide) rfl (Nat.le_of_ble_eq_true rfl) (lv := [(0, _), (1, _), (2, _), (3, _)]) rfl (by simp [Value.category]) ?_
  intro K X hL hG hr hnm
  subst hL; subst hG
  have hF : FrC f f := FrC.rf
  have hL := (hR.cap (dl13 (n := zN z) (k := 3) (by decide))).1
  have hL2 := (hR.cap (dl13 (n := zN z) (k := 3) (by decide))).2
  have hL4 := (hR.cap (dl13 (n := zN z) (k := 4) (by decide))).2
  rw [zL_put, zC_put] at hL4
  have hL5 := (hR.cap (dl13 (n := zN z) (k := 4) (by decide))).1
  rw [zC_put] at hL5
  have hZ3 : zL (zPut z (13, 4) S c) (13, 3) = zL z (13, 3) := tu_n (zL z) (p := (13, 3)) (q := (13, 4)) S (by decide)
  rw [hZ3] at hL2
  refine V_iload_n X rfl dX0_findWith_0 ?_
  refine V_if_lt X (tgt := 21) (by decide) dX0_findWith_1 (fun hc1 => absurd hc1 (nI_pos (by omega))) (fun hc1 => ?_)
  refine V_iload_n X rfl dX0_findWith_4 ?_
  refine V_aload_n X rfl dX0_findWith_5 ?_
  refine V_get X (T := TX0) (N := 5) (v := .ref _) 0 (hR.2.1 (14, 0) (dm14)) rfl hinX0_findWith_X0 (by decide) (by decide +kernel) (fun _ h9 => h9) (rfl) dX0_findWith_6 ?_
  refine V_csize X hR (rest := _) (13, 3) (dl13 (by decide)) gX0_findWith_Jx4a65c_size_8abf5 (by omega) (by omega) (Nat.le_of_ble_eq_true rfl) dX0_findWith_9 ?_
  refine V.top (y := nI (zL z (13, 3)).length) (by rw [hZ3]) ?_
  refine V_icmp_ge X (tgt := 21) (by decide) dX0_findWith_12 (fun hc12 => ?_) (fun hc12 => ?_)
  · refine V_iconst X (v := 0) (by decide) dX0_findWith_21 ?_
    exact V_zret X hr (by decide) (⟨c, Nat.le_refl _, hc, by omega, bI_f (by rw [show fwF z (d + 1) fi S i P ct = (false, fi, S) from if_neg (fun q => absurd q.1 (Nat.not_lt.mpr ((nI_leI (by omega) (by omega)).mp hc12)))]), (by rw [show fwF z (d + 1) fi S i P ct = (false, fi, S) from if_neg (fun q => absurd q.1 (Nat.not_lt.mpr ((nI_leI (by omega) (by omega)).mp hc12)))]; exact hR), hF⟩) dX0_findWith_22
  · refine V_iload_n X rfl dX0_findWith_15 ?_
    refine V_bipush X (v := 6) (by decide) dX0_findWith_16 ?_
    refine V_icmp_lt X (tgt := 23) (by decide) dX0_findWith_18 (fun hc18 => ?_) (fun hc18 => ?_)
    · have hlt : i < (zL z (13, 3)).length := by
          by_cases h9 : i < (zL z (13, 3)).length
          · exact h9
          · exact absurd (nI_le (a := (zL z (13, 3)).length) (b := i) (by omega) (by omega)) hc12
      have hP6 : P < 6 := (nI_ltI (b := 6) (by omega) (by decide)).mp hc18
      obtain ⟨p, hp⟩ : ∃ p, (zL z (13, 3))[i]? = some p := ⟨_, List.getElem?_eq_getElem hlt⟩
      have hgd : (zL z (13, 3)).getD i 0 = p := by simp [List.getD, hp]
      have hp1 : p < zN z 1 := hR.el (q := (13, 3)) (dl13 (by decide)) (by rw [hZ3]; exact hp)
      have hDp := hD p hp1
      have hZ11 : zL (zPut z (13, 4) S c) (11, p) = zL z (11, p) := tu_n (zL z) (p := (11, p)) (q := (13, 4)) S (fun e => by cases e)
      obtain ⟨hk1, hk2, hk3, hk4, hk5⟩ := cap_k (n := S.length) hc hL4 (by omega)
      refine V_aload_n X rfl dX0_findWith_23 ?_
      refine V_get X (T := TX0) (N := 5) (v := .ref _) 0 (hR.2.1 (14, 0) (dm14)) rfl hinX0_findWith_X0 (by decide) (by decide +kernel) (fun _ h9 => h9) (rfl) dX0_findWith_24 ?_
      refine V_iload_n X rfl dX0_findWith_27 ?_
      refine V_cnth X hR (rest := _) (13, 3) (dl13 (by decide)) (i) (p) ((by rw [hZ3]; exact hp)) gX0_findWith_Jx4a65c_get_915e3 (by omega) (by omega) (Nat.le_of_ble_eq_true rfl) dX0_findWith_28 ?_
      refine V_cast X (hR.2.1 (1, p) (dm1 hp1)) rfl (by decide +kernel) dX0_findWith_31 ?_
      refine V_astore X (lv' := [(4, _), (0, _), (1, _), (2, _), (3, _)]) (by decide) rfl dX0_findWith_34 ?_
      refine V_iload_n X rfl dX0_findWith_36 ?_
      refine V_aload X rfl dX0_findWith_37 ?_
      refine V_get X (T := TX2) (N := 5) (v := .ref _) 2 (hR.2.1 (1, p) (dm1 hp1)) rfl hinX0_findWith_X2 (by decide) (by decide +kernel) (fun _ h9 => h9) (rfl) dX0_findWith_39 ?_
      refine V_csize X hR (rest := _) (11, p) (dl11 hp1) gX0_findWith_Jx4a65c_size_8abf5 (by omega) (by omega) (Nat.le_of_ble_eq_true rfl) dX0_findWith_42 ?_
      refine V_iadd X dX0_findWith_45 ?_
      refine V.top (y := nI (P + (zL z (11, p)).length)) (by rw [hZ11, nI_add]) ?_
      refine V_istore X (lv' := [(5, _), (4, _), (0, _), (1, _), (2, _), (3, _)]) (by decide) rfl dX0_findWith_46 ?_
      refine V_iload_n X rfl dX0_findWith_48 ?_
      refine V_aload X rfl dX0_findWith_49 ?_
      refine V_get X (T := TX2) (N := 5) (v := .int _) 4 (hR.2.1 (1, p) (dm1 hp1)) rfl hinX0_findWith_X2 (by decide) (by decide +kernel) (fun _ h9 => h9) (rfl) dX0_findWith_51 ?_
      refine V_iadd X dX0_findWith_54 ?_
      refine V_istore X (lv' := [(6, _), (5, _), (4, _), (0, _), (1, _), (2, _), (3, _)]) (by decide) rfl dX0_findWith_55 ?_
      refine V_iload X rfl dX0_findWith_57 ?_
      refine V_bipush X (v := 6) (by decide) dX0_findWith_59 ?_
      refine V_icmp_gt X (tgt := 73) (by decide) dX0_findWith_61 (fun hc61 => ?_) (fun hc61 => ?_)
      · refine V_iconst X (v := 0) (by decide) dX0_findWith_73 ?_
        exact V_zret X hr (by decide) (⟨c, Nat.le_refl _, hc, by omega, bI_f (by rw [show fwF z (d + 1) fi S i P ct = (false, fi, S) by rw [fwF_1, if_pos ⟨hlt, hP6⟩, hgd]; exact if_neg (fun q => absurd hc61 (nI_nlt (a := 6) (b := P + (zL z (11, p)).length) q.1 (by decide)))]), (by rw [show fwF z (d + 1) fi S i P ct = (false, fi, S) by rw [fwF_1, if_pos ⟨hlt, hP6⟩, hgd]; exact if_neg (fun q => absurd hc61 (nI_nlt (a := 6) (b := P + (zL z (11, p)).length) q.1 (by decide)))]; exact hR), hF⟩) dX0_findWith_74
      · refine V_iload X rfl dX0_findWith_64 ?_
        refine V_iconst X (v := 2) (by decide) dX0_findWith_66 ?_
        refine V_callSp X (rest := _) (c_X4_suffice _ _ _ _ _) gX0_findWith_X4_suffice rfl hds_X4_suffice (by omega) (by omega) rfl (Nat.le_of_ble_eq_true rfl) dX0_findWith_67 ?_
        refine V_if_ne X (tgt := 75) (by decide) dX0_findWith_70 (fun hc70 => ?_) (fun hc70 => ?_)
        · have h2 : P + (zL z (11, p)).length ≤ 6 := Nat.not_lt.mp (fun q : 6 < P + (zL z (11, p)).length => hc61 (nI_lt (a := 6) (b := P + (zL z (11, p)).length) q (by omega)))
          have e1 := fwF_1 z d fi S i P ct
          rw [hgd, if_pos ⟨hlt, hP6⟩, if_pos ⟨h2, bI_ne0 hc70⟩] at e1
          refine V_aload_n X rfl dX0_findWith_75 ?_
          refine V_get X (T := TX0) (N := 5) (v := .ref _) 1 (hR.2.1 (14, 0) (dm14)) rfl hinX0_findWith_X0 (by decide) (by decide +kernel) (fun _ h9 => h9) (rfl) dX0_findWith_76 ?_
          refine V_aload X rfl dX0_findWith_79 ?_
          refine V_cadd (kc' := 0) (ks' := 0) X hR hF (rest := _) (13, 4) (dl13 (by decide)) (Or.inr (by show 3 ≤ 4; omega)) p hp1 (by rw [zL_put, zC_put]; omega) gX0_findWith_Jx4a65c_add_9ea2d (by omega) (by omega) (Nat.le_of_ble_eq_true rfl) (by rw [zL_put, zC_put]; omega) (by rw [zL_put, zC_put]; omega) dX0_findWith_81 (fun f hR hF => ?_)
          rw [zPut_zPut, zL_put, zC_put] at hR
          generalize hc2 : cap2 c S.length = c2 at hR hk3 hk4 hk5
          clear hc2
          refine V_pop X rfl dX0_findWith_84 ?_
          refine V_iload X rfl dX0_findWith_85 ?_
          refine V_bipush X (v := 6) (by decide) dX0_findWith_87 ?_
          refine V_icmp_ne X (tgt := 102) (by decide) dX0_findWith_89 (fun hc89 => ?_) (fun hc89 => ?_)
          · have h26 : ¬ P + (zL z (11, p)).length = 6 := fun q => hc89 (by rw [q]; rfl)
            refine V_aload_n X rfl dX0_findWith_102 ?_
            refine V_iload_n X rfl dX0_findWith_103 ?_
            refine V_iload X rfl dX0_findWith_104 ?_
            refine V_iload X rfl dX0_findWith_106 ?_
            refine V_callS (kc' := 0) (ks' := 0) X (rest := _) (hA _ al fi z (S ++ [p]) c2 i (P + (zL z (11, p)).length) (ct + fi 8 p) hR hD (by rw [List.length_append]; simp; omega) (by omega) (by omega) hk4 (by omega)) gX0_findWith_X0_findAfter rfl hds_X0_findAfter (by omega) (by omega) rfl (Nat.le_of_ble_eq_true rfl) (by omega) (by omega) dX0_findWith_108 (fun r9 f2 h9 => ?_)
            obtain ⟨c3, q1, q2, q3, rfl, hR, hF2⟩ := h9
            have hF := hF.trans hF2
            have hRS := itF_S (g := fun g T k => fwF z d g T k (P + (zL z (11, p)).length) (ct + fi 8 p)) (fun fi S k => fwF_S z d fi S k _ _) ((zL z (13, 3)).length - (i + 1)) fi (S ++ [p]) (i + 1)
            refine V_if_eq X (tgt := 116) (by decide) dX0_findWith_111 (fun hc111 => ?_) (fun hc111 => ?_)
            · refine V_aload_n X rfl dX0_findWith_116 ?_
              have hb9 := bI_eq0 hc111
              rw [hRS hb9] at hR
              refine V_callV (kc' := 0) (ks' := 0) X (rest := _) (c_X0_dropLast _ _ _ al _ _ hR S p (zL_put _ _ _ _)) (hR.2.1 (14, 0) dm14) rfl gX0_findWith_X0_dropLast rfl hdv_X0_dropLast (by omega) (by omega) rfl (Nat.le_of_ble_eq_true rfl) (by omega) (by omega) dX0_findWith_117 (fun r9 f3 h9 => ?_)
              obtain ⟨rfl, hR, hF3⟩ := h9
              have hF := hF.trans hF3
              rw [zPut_zPut, zC_put] at hR
              refine V_iconst X (v := 0) (by decide) dX0_findWith_120 ?_
              exact V_zret X hr (by decide) (⟨c3, by omega, Or.inr (by omega), by omega, bI_f (by rw [e1, if_neg h26, ndF, if_neg (by rw [hb9]; decide)]), (by rw [e1, if_neg h26, ndF, if_neg (by rw [hb9]; decide)]; exact hR), hF⟩) dX0_findWith_121
            · refine V_iconst X (v := 1) (by decide) dX0_findWith_114 ?_
              exact V_zret X hr (by decide) (⟨c3, by omega, Or.inr (by omega), by omega, bI_t (by rw [e1, if_neg h26, ndF, if_pos (bI_ne0 hc111)]; exact bI_ne0 hc111), (by rw [e1, if_neg h26, ndF, if_pos (bI_ne0 hc111)]; exact hR), hF⟩) dX0_findWith_115
          · have h26 : P + (zL z (11, p)).length = 6 := (nI_eq (b := 6) (by omega) (by decide)).mp hc89
            refine V_aload_n X rfl dX0_findWith_92 ?_
            refine V_callV (kc' := 0) (ks' := 0) X (rest := _) (c_X0_split _ _ _ al fi _ hR (by rw [zL_put, List.length_append]; simp) (by rw [zL_put, List.length_append]; simp; omega)) (hR.2.1 (14, 0) dm14) rfl gX0_findWith_X0_split rfl hdv_X0_split (by omega) (by omega) rfl (Nat.le_of_ble_eq_true rfl) (by omega) (by omega) dX0_findWith_93 (fun r9 f2 h9 => ?_)
            obtain ⟨rfl, hR, hF2⟩ := h9
            have hF := hF.trans hF2
            have hsp : spF fi (zPut z (13, 4) (S ++ [p]) c2) = spF fi (zPut z (13, 4) (S ++ [p]) 0) := spF_c (z := zPut z (13, 4) (S ++ [p]) c2) (z' := zPut z (13, 4) (S ++ [p]) 0) rfl fi
            rw [hsp] at hR ⊢
            refine V_if_eq X (tgt := 116) (by decide) dX0_findWith_96 (fun hc96 => ?_) (fun hc96 => ?_)
            · refine V_aload_n X rfl dX0_findWith_116 ?_
              refine V_callV (kc' := 0) (ks' := 0) X (rest := _) (c_X0_dropLast _ _ _ al _ _ hR S p (zL_put _ _ _ _)) (hR.2.1 (14, 0) dm14) rfl gX0_findWith_X0_dropLast rfl hdv_X0_dropLast (by omega) (by omega) rfl (Nat.le_of_ble_eq_true rfl) (by omega) (by omega) dX0_findWith_117 (fun r9 f3 h9 => ?_)
              obtain ⟨rfl, hR, hF3⟩ := h9
              have hF := hF.trans hF3
              rw [zPut_zPut, zC_put] at hR
              refine V_iconst X (v := 0) (by decide) dX0_findWith_120 ?_
              exact V_zret X hr (by decide) (⟨c2, hk3, Or.inr hk4, hk5, bI_f (by rw [e1, if_pos h26, ndF, if_neg (by rw [bI_eq0 hc96]; exact Bool.false_ne_true)]), (by rw [e1, if_pos h26, ndF, if_neg (by rw [bI_eq0 hc96]; exact Bool.false_ne_true)]; exact hR), hF⟩) dX0_findWith_121
            · refine V_goto X (tgt := 114) (by decide) dX0_findWith_99 ?_
              refine V_iconst X (v := 1) (by decide) dX0_findWith_114 ?_
              exact V_zret X hr (by decide) (⟨c2, hk3, Or.inr hk4, hk5, bI_t (by rw [e1, if_pos h26, ndF, if_pos (bI_ne0 hc96)]; exact bI_ne0 hc96), (by rw [e1, if_pos h26, ndF, if_pos (bI_ne0 hc96)]; exact hR), hF⟩) dX0_findWith_115
        · refine V_iconst X (v := 0) (by decide) dX0_findWith_73 ?_
          exact V_zret X hr (by decide) (⟨c, Nat.le_refl _, hc, by omega, bI_f (by rw [show fwF z (d + 1) fi S i P ct = (false, fi, S) by rw [fwF_1, if_pos ⟨hlt, hP6⟩, hgd]; exact if_neg (fun q => absurd q.2 (by rw [bI_eq0 hc70]; decide))]), (by rw [show fwF z (d + 1) fi S i P ct = (false, fi, S) by rw [fwF_1, if_pos ⟨hlt, hP6⟩, hgd]; exact if_neg (fun q => absurd q.2 (by rw [bI_eq0 hc70]; decide))]; exact hR), hF⟩) dX0_findWith_74
    · refine V_iconst X (v := 0) (by decide) dX0_findWith_21 ?_
      exact V_zret X hr (by decide) (⟨c, Nat.le_refl _, hc, by omega, bI_f (by rw [show fwF z (d + 1) fi S i P ct = (false, fi, S) from if_neg (fun q => hc18 (nI_lt (b := 6) q.2 (by decide)))]), (by rw [show fwF z (d + 1) fi S i P ct = (false, fi, S) from if_neg (fun q => hc18 (nI_lt (b := 6) q.2 (by decide)))]; exact hR), hF⟩) dX0_findWith_22
theorem fw_all (l : Launch) (G : GG) : ∀ d, FWc l G d
  | 0 => fw_0 l G
  | d + 1 => fw_1 l G d (fa_of l G d (fw_all l G d))
