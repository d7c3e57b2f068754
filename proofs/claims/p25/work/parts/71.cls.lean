/-! ===== findWith and findAfter, by depth ===== -/
def DH (z : CZ) : Prop := ∀ p, p < zN z 1 → 1 ≤ (zL z (11, p)).length ∧ (zL z (11, p)).length ≤ 3
def DP (G : GG) (al : Tg → Nat) (z : CZ) (f : Wo) (c : Nat) (R : RS) : Option Value → Wo → Prop := fun v9 f' => ∃ c', c ≤ c' ∧ (c' = 0 ∨ 10 ≤ c') ∧ c' ≤ max c 10 ∧ v9 = some (.int (bI R.1)) ∧ RC G al R.2.1 (zPut z (13, 4) R.2.2 c') f' ∧ FrC f f'
def kF (c : Nat) : Nat := if c = 0 then 1 else 0
def sF (c : Nat) : Nat := if c = 0 then 10 else 0
def FWc (l : Launch) (G : GG) (d : Nat) : Prop := ∀ (f : Wo) (al : Tg → Nat) (fi : Nat → Nat → Int32) (z : CZ) (S : List Nat) (c i P : Nat) (ct : Int32), RC G al fi (zPut z (13, 4) S c) f → DH z → S.length ≤ P → P ≤ 100 → 6 ≤ P + d → (c = 0 ∨ 10 ≤ c) → i ≤ 2000 → Ct l yX0_findWith wsX0_findWith (12 + 2 * d) (251 + 50 * d) G [.ref (al (14, 0)), .int (nI i), .int (nI P), .int ct] f (DP G al z f c (fwF z d fi S i P ct)) (kF c) (sF c)
def FAc (l : Launch) (G : GG) (d : Nat) : Prop := ∀ (f : Wo) (al : Tg → Nat) (fi : Nat → Nat → Int32) (z : CZ) (S : List Nat) (c i P : Nat) (ct : Int32), RC G al fi (zPut z (13, 4) S c) f → DH z → S.length ≤ P → P ≤ 100 → 6 ≤ P + d → 10 ≤ c → i ≤ 1000 → Ct l yX0_findAfter wsX0_findAfter (13 + 2 * d) (277 + 50 * d) G [.ref (al (14, 0)), .int (nI i), .int (nI P), .int ct] f (DP G al z f c (itF (fun fi S k => fwF z d fi S k P ct) ((zL z (13, 3)).length - (i + 1)) fi S (i + 1))) 0 0
theorem hinX0_findAfter_X0 : ∀ w ∈ wsX00, w ∈ wsX0_findAfter := by decide +kernel
set_option maxHeartbeats 4000000 in
set_option maxRecDepth 100000 in
theorem fa_of (l : Launch) (G : GG) (d : Nat) (hW : FWc l G d) : FAc l G d := by
  intro f al fi z S c i0 P ct hR hD hS hP hd hc hi0
  refine Ct.of (cc := cX0_findAfter) (maxL := 5) (ret := (some .boolean)) (by decide) rfl (Nat.le_of_ble_eq_true rfl) (lv := [(0, _), (1, _), (2, _), (3, _)]) rfl (by simp [Value.category]) ?_
  intro K X hL hG hr hnm
  subst hL; subst hG
  have hL := (hR.cap (dl13 (n := zN z) (k := 3) (by decide))).1
  have hL2 := (hR.cap (dl13 (n := zN z) (k := 3) (by decide))).2
  have hZ3 : zL (zPut z (13, 4) S c) (13, 3) = zL z (13, 3) := tu_n (zL z) (p := (13, 3)) (q := (13, 4)) S (by decide)
  rw [hZ3] at hL2
  generalize hRR0 : itF (fun fi S k => fwF z d fi S k P ct) ((zL z (13, 3)).length - (i0 + 1)) fi S (i0 + 1) = R at hr
  have L : ∀ (n i : Nat), 3000 - i = n → i ≤ 2000 → ∀ (f1 : Wo) (fi1 : Nat → Nat → Int32), RC (kG K) al fi1 (zPut z (13, 4) S c) f1 → FrC f f1 → itF (fun fi S k => fwF z d fi S k P ct) ((zL z (13, 3)).length - i) fi1 S i = R → V K f1 0 0 5 [(0, .ref (al (14, 0))), (1, .int (nI i0)), (2, .int (nI P)), (3, .int ct), (4, .int (nI i))] [] := by
    intro n
    induction n using Nat.strongRecOn with
    | ind n ih =>
      intro i hn hi f1 fi1 hR hF hRR
      refine V_iload X rfl dX0_findAfter_5 ?_
      refine V_aload_n X rfl dX0_findAfter_7 ?_
      refine V_get X (T := TX0) (N := 5) (v := .ref _) 0 (hR.2.1 (14, 0) (dm14)) rfl hinX0_findAfter_X0 (by decide) (by decide +kernel) (fun _ h9 => h9) (rfl) dX0_findAfter_8 ?_
      refine V_csize X hR (rest := _) (13, 3) (dl13 (by decide)) gX0_findAfter_Jx4a65c_size_8abf5 (by omega) (by omega) (Nat.le_of_ble_eq_true rfl) dX0_findAfter_11 ?_
      refine V.top (y := nI (zL z (13, 3)).length) (by rw [hZ3]) ?_
      refine V_icmp_ge X (tgt := 36) (by decide) dX0_findAfter_14 (fun hc14 => ?_) (fun hc14 => ?_)
      · have hz9 : itF (fun fi S k => fwF z d fi S k P ct) ((zL z (13, 3)).length - i) fi1 S i = (false, fi1, S) := by
          have h9 : (zL z (13, 3)).length ≤ i := (nI_leI (by omega) (by omega)).mp hc14
          rw [show (zL z (13, 3)).length - i = 0 by omega]; rfl
        refine V_iconst X (v := 0) (by decide) dX0_findAfter_36 ?_
        exact V_zret X hr (by decide) (⟨c, Nat.le_refl _, Or.inr hc, by omega, bI_f (by rw [← hRR, hz9]), (by rw [← hRR, hz9]; exact hR), hF⟩) dX0_findAfter_37
      · have hlt : i < (zL z (13, 3)).length := by
          by_cases h9 : i < (zL z (13, 3)).length
          · exact h9
          · exact absurd (nI_le (a := (zL z (13, 3)).length) (b := i) (by omega) (by omega)) hc14
        have hst : itF (fun fi S k => fwF z d fi S k P ct) ((zL z (13, 3)).length - i) fi1 S i = if (fwF z d fi1 S i P ct).1 = true then fwF z d fi1 S i P ct else itF (fun fi S k => fwF z d fi S k P ct) ((zL z (13, 3)).length - (i + 1)) (fwF z d fi1 S i P ct).2.1 (fwF z d fi1 S i P ct).2.2 (i + 1) := by rw [show (zL z (13, 3)).length - i = ((zL z (13, 3)).length - (i + 1)) + 1 by omega]; rfl
        refine V_aload_n X rfl dX0_findAfter_17 ?_
        refine V_iload X rfl dX0_findAfter_18 ?_
        refine V_iload_n X rfl dX0_findAfter_20 ?_
        refine V_iload_n X rfl dX0_findAfter_21 ?_
        refine V_callS (kc' := 0) (ks' := 0) X (rest := _) (hW _ al fi1 z S c i P ct hR hD hS hP hd (Or.inr hc) (by omega)) gX0_findAfter_X0_findWith rfl hds_X0_findWith (by omega) (by omega) rfl (Nat.le_of_ble_eq_true rfl) (by rw [kF, if_neg (by omega)]; omega) (by rw [sF, if_neg (by omega)]; omega) dX0_findAfter_22 (fun r9 f2 h9 => ?_)
        obtain ⟨c2, q1, q2, q3, rfl, hR2, hF2⟩ := h9
        have e2 : c2 = c := by omega
        subst e2
        have hF := hF.trans hF2
        refine V_if_eq X (tgt := 30) (by decide) dX0_findAfter_25 (fun hc25 => ?_) (fun hc25 => ?_)
        · refine V_iinc X (lv' := [(4, _), (0, _), (1, _), (2, _), (3, _)]) (v := nI (i + 1)) rfl (nI_1 _) (by decide) rfl dX0_findAfter_30 ?_
          refine V_goto X (tgt := 5) (by decide) dX0_findAfter_33 ?_
          have h0 := bI_eq0 hc25
          rw [fwF_S z d fi1 S i P ct h0] at hR2
          rw [if_neg (by rw [h0]; decide), fwF_S z d fi1 S i P ct h0] at hst
          refine V.lvs (lv' := [(0, _), (1, _), (2, _), (3, _), (4, _)]) rfl ?_
          exact ih (3000 - (i + 1)) (by omega) (i + 1) rfl (by omega) _ _ hR2 hF (hst.symm.trans hRR)
        · refine V_iconst X (v := 1) (by decide) dX0_findAfter_28 ?_
          exact V_zret X hr (by decide) (⟨c2, Nat.le_refl _, q2, q3, bI_t (by rw [← hRR, hst, if_pos (bI_ne0 hc25)]; exact bI_ne0 hc25), (by rw [← hRR, hst, if_pos (bI_ne0 hc25)]; exact hR2), hF⟩) dX0_findAfter_29
  refine V_iload_n X rfl dX0_findAfter_0 ?_
  refine V_iconst X (v := 1) (by decide) dX0_findAfter_1 ?_
  refine V_iadd X dX0_findAfter_2 ?_
  refine V.top (y := nI (i0 + 1)) (nI_1 _) ?_
  refine V_istore X (lv' := [(4, _), (0, _), (1, _), (2, _), (3, _)]) (by decide) rfl dX0_findAfter_3 ?_
  refine V.lvs (lv' := [(0, _), (1, _), (2, _), (3, _), (4, _)]) rfl ?_
  exact L _ (i0 + 1) rfl (by omega) _ _ hR FrC.rf hRR0
