/-! ===== make ===== -/
theorem zL_pn (z : CZ) (q : Tg) (a : List Nat) (c : Nat) {p : Tg} (h : p ≠ q) : zL (zPut z q a c) p = zL z p := tu_n _ _ h
theorem zC_pn (z : CZ) (q : Tg) (a : List Nat) (c : Nat) {p : Tg} (h : p ≠ q) : zC (zPut z q a c) p = zC z p := tu_n _ _ h
def cpO (z : CZ) : Prop := zC z (13, 3) ≤ 25 ∧ (zC z (13, 4) = 0 ∨ 10 ≤ zC z (13, 4))
def mkP (G : GG) (al : Tg → Nat) (z : CZ) (f : Wo) (R : RS) : Option Value → Wo → Prop := fun v9 f' => (R.1 = false ∧ v9 = some (.int (-1)) ∧ ∃ z', zE z z' ∧ cpO z' ∧ RC G al R.2.1 z' f' ∧ FrC f f') ∨ (R.1 = true ∧ v9 = some (.int (nI (zN z 2))) ∧ ∃ (al' : Tg → Nat) (z' : CZ) (cap cm : Nat), al' (15, 0) = al (15, 0) ∧ zE z z' ∧ cpO z' ∧ cap ≤ 800 ∧ RC G al' (nmF R.2.1 (zN z 2) (R.2.1 18 0) R.2.2) (zM z' R.2.2 cap cm) f' ∧ FrC f f')
def qnC (fi : Nat → Nat → Int32) (n : Nat) : Nat := cntN (fun k => decide (fi 7 k = 1)) n
theorem qnC_le (fi : Nat → Nat → Int32) {i n : Nat} (h : i ≤ n) : qnC fi i ≤ qnC fi n := by
  induction n with
  | zero => rw [show i = 0 by omega]; exact Nat.le_refl _
  | succ n ih =>
    by_cases he : i = n + 1
    · subst he; exact Nat.le_refl _
    · exact Nat.le_trans (ih (by omega)) (Nat.le_add_right _ _)
theorem qnC_1 {fi : Nat → Nat → Int32} {i : Nat} (h : fi 7 i = 1) : qnC fi (i + 1) = qnC fi i + 1 := by
  show cntN _ i + _ = _
  rw [if_pos (decide_eq_true h)]
  rfl
theorem gaL_q (fi : Nat → Nat → Int32) (z : CZ) (b p : Nat) : ∀ n, (gaL fi z b p n).length ≤ qnC fi n
  | 0 => Nat.le_refl _
  | n + 1 => by
    have ih := gaL_q fi z b p n
    cases hg : gaT fi z b p n with
    | true =>
      rw [gaL_t hg, List.length_append]
      have h7 : fi 7 n = 1 := by
        unfold gaT at hg
        simp only [Bool.and_eq_true, decide_eq_true_eq] at hg
        exact hg.2.1
      rw [qnC_1 h7]
      exact Nat.succ_le_succ ih
    | false =>
      rw [gaL_f hg]
      exact Nat.le_trans ih (qnC_le fi (Nat.le_succ n))
theorem qnC_c {fi fi' : Nat → Nat → Int32} (h : ∀ k, fi' 7 k = fi 7 k) (n : Nat) : qnC fi' n = qnC fi n := by
  unfold qnC
  rw [show (fun k => decide (fi' 7 k = 1)) = fun k => decide (fi 7 k = 1) from funext fun k => by rw [h k]]
theorem mkG_1 {z : CZ} {n i : Nat} {fi : Nat → Nat → Int32} (h : fi 7 i = 1) : mkG z (n + 1) fi i = if (mkW fi z i).1 = true then mkW fi z i else mkG z n (mkW fi z i).2.1 (i + 1) := by
  rw [mkG, if_pos h]
theorem mkG_0 {z : CZ} {n i : Nat} {fi : Nat → Nat → Int32} (h : ¬ fi 7 i = 1) : mkG z (n + 1) fi i = mkG z n fi (i + 1) := by
  rw [mkG, if_neg h]
theorem kF_le (c : Nat) : kF c ≤ 1 := by unfold kF; split <;> omega
theorem sF_le (c : Nat) : sF c ≤ 10 := by unfold sF; split <;> omega
theorem cap2_m {c n : Nat} (h : c ≤ 800) (h2 : n ≤ 512) (h3 : n ≤ c) : cap2 c n ≤ 800 ∧ adC c n ≤ 1 ∧ adS c n ≤ 800 := by
  unfold cap2 adC adS
  by_cases hl : n < c
  · rw [if_pos hl, if_pos hl, if_pos hl]; omega
  · have : c = n := by omega
    subst this
    rw [if_neg hl, if_neg hl, if_neg hl]
    unfold ncap
    split <;> omega
theorem hinX5_make_X2 : ∀ w ∈ wsX20, w ∈ wsX5_make := by decide +kernel
theorem hinX5_make_X5 : ∀ w ∈ wsX50, w ∈ wsX5_make := by decide +kernel
set_option maxHeartbeats 4000000 in
set_option maxRecDepth 100000 in
theorem c_X5_make (l : Launch) (G : GG) (f : Wo) (al : Tg → Nat) (fi : Nat → Nat → Int32) (z : CZ) (hR : RC G al fi z f) (hD : DH z) (hcp : cpO z) (hcc : zC z (13, 2) ≤ 800) (h512 : zN z 2 ≤ 512) (hQ : qnC fi (zN z 1) ≤ 18) : Ct l yX5_make wsX5_make 28 647 G [.ref (al (15, 0))] f (mkP G al z f (mkG z (zN z 1) fi 0)) 347 9160 := by
  refine Ct.of (cc := cX5_make) (maxL := 2) (ret := (some .int)) (by decide) rfl (Nat.le_of_ble_eq_true rfl) (lv := [(0, _)]) rfl (by simp [Value.category]) ?_
  intro K X hL hG hr hnm
  subst hL; subst hG
  have hN1 := hR.n1 (j := 1) (by decide)
  generalize hRR0 : mkG z (zN z 1) fi 0 = R at hr
  have L : ∀ (n i : Nat), zN z 1 - i = n → i ≤ zN z 1 → ∀ (f1 : Wo) (fi1 : Nat → Nat → Int32) (z1 : CZ), RC (kG K) al fi1 z1 f1 → FrC f f1 → zE z z1 → cpO z1 → DQ fi fi1 → mkG z (zN z 1 - i) fi1 i = R → V K f1 ((qnC fi (zN z 1) - qnC fi i) * 19 + 5) ((qnC fi (zN z 1) - qnC fi i) * 460 + 880) 2 [(0, .ref (al (15, 0))), (1, .int (nI i))] [] := by
    intro n
    induction n using Nat.strongRecOn with
    | ind n ih =>
      intro i hn hi f1 fi1 z1 hR hF hE hcp hDQ hRR
      refine V_iload_n X rfl dX5_make_2 ?_
      refine V_aload_n X rfl dX5_make_3 ?_
      refine V_get X (T := TX5) (N := 5) (v := .ref _) 1 (hR.2.1 (15, 0) (dm15)) rfl hinX5_make_X5 (by decide) (by decide +kernel) (fun _ h9 => h9) (rfl) dX5_make_4 ?_
      refine V_csize X hR (rest := _) (13, 1) (dl13 (by decide)) gX5_make_Jx4a65c_size_8abf5 (Nat.le_of_ble_eq_true rfl) (Nat.le_of_ble_eq_true rfl) (Nat.le_of_ble_eq_true rfl) dX5_make_7 ?_
      refine V.top (y := nI (zN z 1)) (by rw [hR.len (by decide), hE.1]) ?_
      refine V_icmp_ge X (tgt := 92) (by decide) dX5_make_10 (fun hc10 => ?_) (fun hc10 => ?_)
      · have hiN : i = zN z 1 := lim_ge (N := zN z 1) rfl hc10 hi (by omega)
        have hst : mkG z (zN z 1 - i) fi1 i = (false, fi1, []) := by rw [show zN z 1 - i = 0 by omega]; rfl
        refine V_iconst X (v := (-1)) (by decide) dX5_make_92 ?_
        exact V_iret X hr (Or.inl ⟨by rw [← hRR, hst], rfl, z1, hE, hcp, (by rw [← hRR, hst]; exact hR), hF⟩) dX5_make_93
      · have hlt : i < zN z 1 := lim_lt (N := zN z 1) rfl hc10 hi (by omega)
        have hi1 : i < zN z1 1 := by rw [hE.1]; exact hlt
        refine V_aload_n X rfl dX5_make_13 ?_
        refine V_get X (T := TX5) (N := 5) (v := .ref _) 1 (hR.2.1 (15, 0) (dm15)) rfl hinX5_make_X5 (by decide) (by decide +kernel) (fun _ h9 => h9) (rfl) dX5_make_14 ?_
        refine V_iload_n X rfl dX5_make_17 ?_
        refine V_cnth X hR (rest := _) (13, 1) (dl13 (by decide)) (i) (i) (hR.main (by decide) hi1) gX5_make_Jx4a65c_get_915e3 (Nat.le_of_ble_eq_true rfl) (Nat.le_of_ble_eq_true rfl) (Nat.le_of_ble_eq_true rfl) dX5_make_18 ?_
        refine V_cast X (hR.2.1 (1, i) (dm1 hi1)) rfl (by decide +kernel) dX5_make_21 ?_
        refine V_get X (T := TX2) (N := 5) (v := .int _) 3 (hR.2.1 (1, i) (dm1 hi1)) rfl hinX5_make_X2 (by decide) (by decide +kernel) (fun _ h9 => h9) (rfl) dX5_make_24 ?_
        refine V_iconst X (v := 1) (by decide) dX5_make_27 ?_
        refine V_icmp_ne X (tgt := 86) (by decide) dX5_make_28 (fun hc28 => ?_) (fun hc28 => ?_)
        · refine V_iinc X (lv' := [(1, _), (0, _)]) (v := nI (i + 1)) rfl (nI_1 _) (by decide) rfl dX5_make_86 ?_
          refine V_goto X (tgt := 2) (by decide) dX5_make_89 ?_
          refine V.lvs (lv' := [(0, _), (1, _)]) rfl ?_
          have hst := mkG_0 (z := z) (n := zN z 1 - (i + 1)) (i := i) (fi := fi1) hc28
          refine V.bud ?_ ?_ (ih (zN z 1 - (i + 1)) (by omega) (i + 1) rfl (by omega) _ _ _ hR hF hE hcp hDQ (by rw [← hRR, show zN z 1 - i = (zN z 1 - (i + 1)) + 1 by omega, hst]))
          · have h7 : qnC fi i ≤ qnC fi (i + 1) := qnC_le fi (Nat.le_succ i)
            have h8 : (qnC fi (zN z 1) - qnC fi (i + 1)) * 19 ≤ (qnC fi (zN z 1) - qnC fi i) * 19 := Nat.mul_le_mul_right _ (by omega)
            omega
          · have h7 : qnC fi i ≤ qnC fi (i + 1) := qnC_le fi (Nat.le_succ i)
            have h8 : (qnC fi (zN z 1) - qnC fi (i + 1)) * 460 ≤ (qnC fi (zN z 1) - qnC fi i) * 460 := Nat.mul_le_mul_right _ (by omega)
            omega
        · have hst : mkG z (zN z 1 - i) fi1 i = if (mkW fi1 z i).1 = true then mkW fi1 z i else mkG z (zN z 1 - (i + 1)) (mkW fi1 z i).2.1 (i + 1) := by
            rw [show zN z 1 - i = (zN z 1 - (i + 1)) + 1 by omega]; exact mkG_1 hc28
          have hq1 : qnC fi (i + 1) = qnC fi i + 1 := qnC_1 ((hDQ 7 i (Or.inl (by omega))).symm.trans hc28)
          have hq2 : qnC fi (i + 1) ≤ qnC fi (zN z 1) := qnC_le fi hlt
          refine V_aload_n X rfl dX5_make_31 ?_
          refine V_aload_n X rfl dX5_make_32 ?_
          refine V_get X (T := TX5) (N := 5) (v := .ref _) 1 (hR.2.1 (15, 0) (dm15)) rfl hinX5_make_X5 (by decide) (by decide +kernel) (fun _ h9 => h9) (rfl) dX5_make_33 ?_
          refine V_iload_n X rfl dX5_make_36 ?_
          refine V_cnth X hR (rest := _) (13, 1) (dl13 (by decide)) (i) (i) (hR.main (by decide) hi1) gX5_make_Jx4a65c_get_915e3 (Nat.le_of_ble_eq_true rfl) (Nat.le_of_ble_eq_true rfl) (Nat.le_of_ble_eq_true rfl) dX5_make_37 ?_
          refine V_cast X (hR.2.1 (1, i) (dm1 hi1)) rfl (by decide +kernel) dX5_make_40 ?_
          refine V_iload_n X rfl dX5_make_43 ?_
          refine V_callV (kc' := (qnC fi (zN z 1) - qnC fi (i + 1)) * 19 + 6) (ks' := (qnC fi (zN z 1) - qnC fi (i + 1)) * 460 + 890) X (rest := _) (c_X5_gatherCandidates _ _ _ al fi1 z1 hR i i (Nat.le_of_lt hi1) hi1 hcp.1 (Nat.le_trans (gaL_q fi1 z1 i i _) (by rw [qnC_c (fun k => hDQ 7 k (Or.inl (by omega))), hE.1]; exact hQ))) (hR.2.1 (15, 0) dm15) rfl gX5_make_X5_gatherCandidates rfl hdv_X5_gatherCandidates (Nat.le_of_ble_eq_true rfl) (Nat.le_of_ble_eq_true rfl) rfl (Nat.le_of_ble_eq_true rfl) (by omega) (by omega) dX5_make_44 (fun r9 f2 h9 => ?_)
          obtain ⟨cap, hcap, rfl, hR, hF2⟩ := h9
          have hF := hF.trans hF2
          rw [gaL_c (fun p => (hE.2.2 (11, p) (fun e => by cases e) (fun e => by cases e)).1), hE.1] at hR
          have hE2 := hE.put3 (gaL fi1 z i i (zN z 1)) cap
          have hc3 : zC (zPut z1 (13, 3) (gaL fi1 z i i (zN z 1)) cap) (13, 3) ≤ 25 := by rw [zC_put]; exact hcap
          have hc4 : zC (zPut z1 (13, 3) (gaL fi1 z i i (zN z 1)) cap) (13, 4) = 0 ∨ 10 ≤ zC (zPut z1 (13, 3) (gaL fi1 z i i (zN z 1)) cap) (13, 4) := by rw [zC_pn _ _ _ _ (show ((13, 4) : Tg) ≠ (13, 3) from fun e => by cases e)]; exact hcp.2
          have hW : fwF (zPut z1 (13, 3) (gaL fi1 z i i (zN z 1)) cap) 7 fi1 [] 0 0 0 = mkW fi1 z i := fwF_c ((zL_put _ _ _ _).trans (zL_put _ _ _ _).symm) (fun p => (hE2.2.2 (11, p) (fun e => by cases e) (fun e => by cases e)).1.trans (zL_pn z (13, 3) (gaL fi1 z i i (zN z 1)) 0 (p := (11, p)) (fun e => by cases e)).symm) _ _ _ _ _ _
          have hD2 : DH (zPut z1 (13, 3) (gaL fi1 z i i (zN z 1)) cap) := fun p hp => by
            rw [(hE2.2.2 (11, p) (fun e => by cases e) (fun e => by cases e)).1]
            rw [hE2.1] at hp
            exact hD p hp
          generalize zPut z1 (13, 3) (gaL fi1 z i i (zN z 1)) cap = z2 at hR hE2 hc3 hc4 hW hD2
          refine V_aload_n X rfl dX5_make_47 ?_
          refine V_get X (T := TX5) (N := 5) (v := .ref _) 3 (hR.2.1 (15, 0) (dm15)) rfl hinX5_make_X5 (by decide) (by decide +kernel) (fun _ h9 => h9) (rfl) dX5_make_48 ?_
          have hk8 := kF_le (zC z2 (13, 4))
          have hs8 := sF_le (zC z2 (13, 4))
          refine V_callV (kc' := (qnC fi (zN z 1) - qnC fi (i + 1)) * 19 + 5) (ks' := (qnC fi (zN z 1) - qnC fi (i + 1)) * 460 + 880) X (rest := _) (c_X0_findSet _ _ _ al fi1 z2 hR hD2 hc4) (hR.2.1 (14, 0) dm14) rfl gX5_make_X0_findSet rfl hdv_X0_findSet (Nat.le_of_ble_eq_true rfl) (Nat.le_of_ble_eq_true rfl) rfl (Nat.le_of_ble_eq_true rfl) (by omega) (by omega) dX5_make_51 (fun r9 f3 h9 => ?_)
          rw [hW] at h9
          obtain ⟨c9, q1, q2, q3, rfl, hR, hF2⟩ := h9
          have hF := hF.trans hF2
          have hE := hE2.put4 (mkW fi1 z i).2.2 c9
          have hcp : cpO (zPut z2 (13, 4) (mkW fi1 z i).2.2 c9) := ⟨by rw [zC_pn _ _ _ _ (show ((13, 3) : Tg) ≠ (13, 4) from fun e => by cases e)]; exact hc3, by rw [zC_put]; exact q2⟩
          have hZ4 : zL (zPut z2 (13, 4) (mkW fi1 z i).2.2 c9) (13, 4) = (mkW fi1 z i).2.2 := zL_put _ _ _ _
          have hDQ := hDQ.trans (fwF_DQ _ 7 fi1 [] 0 0 0 : DQ fi1 (mkW fi1 z i).2.1)
          generalize zPut z2 (13, 4) (mkW fi1 z i).2.2 c9 = z3 at hR hE hcp hZ4
          refine V_if_eq X (tgt := 86) (by decide) dX5_make_54 (fun hc54 => ?_) (fun hc54 => ?_)
          · refine V_iinc X (lv' := [(1, _), (0, _)]) (v := nI (i + 1)) rfl (nI_1 _) (by decide) rfl dX5_make_86 ?_
            refine V_goto X (tgt := 2) (by decide) dX5_make_89 ?_
            refine V.lvs (lv' := [(0, _), (1, _)]) rfl ?_
            exact ih (zN z 1 - (i + 1)) (by omega) (i + 1) rfl (by omega) _ _ _ hR hF hE hcp hDQ (by rw [← hRR, hst, if_neg (by rw [bI_eq0 hc54]; decide)])
          · have h6 : (mkW fi1 z i).2.2.length ≤ 6 := fwF_len (zPut z (13, 3) (gaL fi1 z i i (zN z 1)) 0) (fun k hk => by
              rw [zL_pn _ _ _ _ (show ((11, (zL (zPut z (13, 3) (gaL fi1 z i i (zN z 1)) 0) (13, 3)).getD k 0) : Tg) ≠ (13, 3) from fun e => by cases e)]
              rw [zL_put] at hk ⊢
              refine (hD _ ?_).1
              rw [List.getD, List.getElem?_eq_getElem hk]
              exact List.mem_range.mp (List.mem_filter.mp (List.getElem_mem hk)).1) 7 fi1 [] 0 0 0 (Nat.zero_le _) (bI_ne0 hc54)
            refine V_aload_n X rfl dX5_make_57 ?_
            refine V_get X (T := TX5) (N := 5) (v := .ref _) 2 (hR.2.1 (15, 0) (dm15)) rfl hinX5_make_X5 (by decide) (by decide +kernel) (fun _ h9 => h9) (rfl) dX5_make_58 ?_
            refine V_aload_n X rfl dX5_make_61 ?_
            refine V_get X (T := TX5) (N := 5) (v := .ref _) 3 (hR.2.1 (15, 0) (dm15)) rfl hinX5_make_X5 (by decide) (by decide +kernel) (fun _ h9 => h9) (rfl) dX5_make_62 ?_
            refine V_aload_n X rfl dX5_make_65 ?_
            refine V_get X (T := TX5) (N := 5) (v := .int _) 4 (hR.2.1 (15, 0) (dm15)) rfl hinX5_make_X5 (by decide) (by decide +kernel) (fun _ h9 => h9) (rfl) dX5_make_66 ?_
            refine V_callV (kc' := 1) (ks' := 850) X (rest := _) (c_X0_newMatch _ _ _ al _ z3 hR ((mkW fi1 z i).2.1 18 0) (by rw [hZ4]; exact h6)) (hR.2.1 (14, 0) dm14) rfl gX5_make_X0_newMatch rfl hdv_X0_newMatch (Nat.le_of_ble_eq_true rfl) (Nat.le_of_ble_eq_true rfl) rfl (Nat.le_of_ble_eq_true rfl) (by omega) (by omega) dX5_make_69 (fun r9 f4 h9 => ?_)
            obtain ⟨m, q, rfl, hm0, hq0, hm, ⟨cm, hcm, hq⟩, hR, hF3⟩ := h9
            rw [hZ4] at hcm hq hR
            have hF := hF.trans hF3
            have hxs : ∀ x ∈ (mkW fi1 z i).2.2, x < zN z3 1 := fun x hx => hR.1.1 (13, 4) (dl13 (by decide)) x (by rw [hZ4]; exact hx)
            obtain ⟨us, hu⟩ := hR.lat (dl13 (n := zN z3) (k := 2) (by decide))
            obtain ⟨g0, hg0⟩ := hR.2.2.2
            have hA0 := hR.2.2.1 (13, 2) (dl13 (by decide))
            have hl : (lst al (zL z3) (13, 2)).length = zN z 2 := by rw [lst, List.length_map, hR.len (by decide), hE.1]
            have hc2 : zC z3 (13, 2) ≤ 800 := by rw [(hE.2.2 (13, 2) (fun e => by cases e) (fun e => by cases e)).2]; exact hcc
            obtain ⟨hb1, hb2, hb3⟩ := cap2_m (c := zC z3 (13, 2)) (n := zN z 2) hc2 h512 (by rw [← hl]; exact hA0.le)
            refine V_callV (kc' := 0) (ks' := 0) X (rest := _) (c_Jx4a65c_add_9ea2d _ _ _ (al (13, 2)) (13, 2) (by decide) _ _ hA0 (by omega) ⟨_, hg0⟩ RX1 (CN_x (k := 2) (by decide)).1 (CN_x (k := 2) (by decide)).2 m (fun x hx => by
              rcases List.mem_cons.mp hx with hx | hx
              · subst hx; exact ⟨_, _, _, _, _, hm, rfl, by show (2 : Nat) ≠ 20; omega⟩
              · obtain ⟨j, hj, rfl⟩ := List.mem_map.mp hx
                exact hR.one (k := 2) (by decide) (hR.1.1 (13, 2) (dl13 (by decide)) j hj))) hu rfl gX5_make_Jx4a65c_add_9ea2d rfl hdv_Jx4a65c_add_9ea2d (Nat.le_of_ble_eq_true rfl) (Nat.le_of_ble_eq_true rfl) rfl (Nat.le_of_ble_eq_true rfl) (by rw [hl]; omega) (by rw [hl]; omega) dX5_make_72 (fun r9 f5 h9 => ?_)
            obtain ⟨rfl, hA, hL⟩ := h9
            rw [hl] at hA
            obtain ⟨hR, hF4⟩ := hR.growM (fi' := nmF (mkW fi1 z i).2.1 (zN z3 2) ((mkW fi1 z i).2.1 18 0) (mkW fi1 z i).2.2) hm hq hxs hA hL (by simp [fsC, nmF, fu, va_up, aM, tu]) (nmF_ne _ _ _ _) (by omega) (by rw [hcm]; split <;> omega) (by rw [hE.1]; omega)
            have hF := hF.trans hF4
            rw [hE.1] at hR
            have eO : al (15, 0) = aM al (zN z 2) m q (15, 0) := (aM_n (fun e => by cases e) (fun e => by cases e)).symm
            have hN2 : zN (zM z3 (mkW fi1 z i).2.2 (cap2 (zC z3 (13, 2)) (zN z 2)) cm) 2 = zN z 2 + 1 := (va_up_self (zN z3) 2 (zN z3 2 + 1)).trans (by rw [hE.1])
            rw [eO]
            refine (?_ : V _ _ _ _ _ _ _)
            refine V_pop X rfl dX5_make_75 ?_
            refine V_aload_n X rfl dX5_make_76 ?_
            refine V_get X (T := TX5) (N := 5) (v := .ref _) 2 (hR.2.1 (15, 0) (dm15)) rfl hinX5_make_X5 (by decide) (by decide +kernel) (fun _ h9 => h9) (rfl) dX5_make_77 ?_
            refine V_csize X hR (rest := _) (13, 2) (dl13 (by decide)) gX5_make_Jx4a65c_size_8abf5 (Nat.le_of_ble_eq_true rfl) (Nat.le_of_ble_eq_true rfl) (Nat.le_of_ble_eq_true rfl) dX5_make_80 ?_
            refine V.top (y := nI (zN z 2 + 1)) (by rw [hR.len (by decide), hN2]) ?_
            refine V_iconst X (v := 1) (by decide) dX5_make_83 ?_
            refine V_isub X dX5_make_84 ?_
            refine V.top (y := nI (zN z 2)) (nI_pred _) ?_
            exact V_iret X hr (Or.inr ⟨by rw [← hRR, hst, if_pos (bI_ne0 hc54)]; exact bI_ne0 hc54, rfl, _, z3, _, _, eO.symm, hE, hcp, hb1, (by rw [← hRR, hst, if_pos (bI_ne0 hc54)]; exact hR), hF⟩) dX5_make_85
  refine V_iconst X (v := 0) (by decide) dX5_make_0 ?_
  refine V_istore_n X (lv' := [(1, _), (0, _)]) (by decide) rfl dX5_make_1 ?_
  refine V.lvs (lv' := [(0, _), (1, _)]) rfl ?_
  have h9 := L _ 0 rfl (Nat.zero_le _) _ _ _ hR FrC.rf (zE.rf z) hcp DQ.rf hRR0
  refine V.bud ?_ ?_ h9
  · have h8 : (qnC fi (zN z 1) - qnC fi 0) * 19 ≤ 18 * 19 := Nat.mul_le_mul_right _ (by omega)
    omega
  · have h8 : (qnC fi (zN z 1) - qnC fi 0) * 460 ≤ 18 * 460 := Nat.mul_le_mul_right _ (by omega)
    omega
