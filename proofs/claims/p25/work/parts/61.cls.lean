/-! ===== the draft's candidates ===== -/
theorem zPut_zPut (z : CZ) (q : Tg) (a b : List Nat) (c d : Nat) : zPut (zPut z q a c) q b d = zPut z q b d := by
  have h : ∀ {α : Type} (g : Tg → α) (x y : α), tu (tu g q x) q y = tu g q y := fun g x y => funext fun p => by
    by_cases hp : p = q
    · subst hp; rw [tu_s, tu_s]
    · rw [tu_n _ _ hp, tu_n _ _ hp, tu_n _ _ hp]
  show (tu (tu (zL z) q a) q b, zA z, zN z, tu (tu (zC z) q c) q d) = _
  rw [h, h]
  rfl
theorem zL_put (z : CZ) (q : Tg) (a : List Nat) (c : Nat) : zL (zPut z q a c) q = a := tu_s _ _ _
theorem zC_put (z : CZ) (q : Tg) (a : List Nat) (c : Nat) : zC (zPut z q a c) q = c := tu_s _ _ _
def gaT (fi : Nat → Nat → Int32) (z : CZ) (b p i : Nat) : Bool := decide (b ≤ i) && (decide (fi 7 i = 1) && ftC fi z (fi 18 0) i p)
def gaL (fi : Nat → Nat → Int32) (z : CZ) (b p n : Nat) : List Nat := (List.range n).filter (gaT fi z b p)
theorem gaL_t {fi : Nat → Nat → Int32} {z : CZ} {b p i : Nat} (h : gaT fi z b p i = true) : gaL fi z b p (i + 1) = gaL fi z b p i ++ [i] := by unfold gaL; rw [List.range_succ, List.filter_append]; simp [h]
theorem gaL_f {fi : Nat → Nat → Int32} {z : CZ} {b p i : Nat} (h : gaT fi z b p i = false) : gaL fi z b p (i + 1) = gaL fi z b p i := by unfold gaL; rw [List.range_succ, List.filter_append]; simp [h]
theorem gaL_0 (fi : Nat → Nat → Int32) (z : CZ) (b p : Nat) : gaL fi z b p b = [] := by
  unfold gaL
  rw [List.filter_eq_nil_iff]
  intro i hi
  have := List.mem_range.mp hi
  unfold gaT
  rw [decide_eq_false (by omega), Bool.false_and]
  decide
theorem gaL_le (fi : Nat → Nat → Int32) (z : CZ) (b p : Nat) {n i : Nat} (h : i ≤ n) : (gaL fi z b p i).length ≤ (gaL fi z b p n).length := by
  induction n with
  | zero => rw [show i = 0 by omega]; exact Nat.le_refl _
  | succ n ih =>
    by_cases hi : i = n + 1
    · rw [hi]; exact Nat.le_refl _
    · refine Nat.le_trans (ih (by omega)) ?_
      cases hb : gaT fi z b p n with
      | true => rw [gaL_t hb, List.length_append]; omega
      | false => rw [gaL_f hb]; exact Nat.le_refl _
theorem cap2_le {c n : Nat} (h : c ≤ 25) (h2 : n ≤ 17) (h3 : n ≤ c) : cap2 c n ≤ 25 ∧ adC c n ≤ 1 ∧ adS c n ≤ 25 := by
  unfold cap2 adC adS ncap
  split
  · omega
  · split <;> omega
theorem hinX5_gatherCandidates_X0 : ∀ w ∈ wsX00, w ∈ wsX5_gatherCandidates := by decide +kernel
theorem hinX5_gatherCandidates_X2 : ∀ w ∈ wsX20, w ∈ wsX5_gatherCandidates := by decide +kernel
theorem hinX5_gatherCandidates_X5 : ∀ w ∈ wsX50, w ∈ wsX5_gatherCandidates := by decide +kernel
set_option maxHeartbeats 4000000 in
set_option maxRecDepth 100000 in
theorem c_X5_gatherCandidates (l : Launch) (G : GG) (f : Wo) (al : Tg → Nat) (fi : Nat → Nat → Int32) (z : CZ) (hR : RC G al fi z f) (b p : Nat) (hb : b ≤ zN z 1) (hp : p < zN z 1) (hcc : zC z (13, 3) ≤ 25) (hQ : (gaL fi z b p (zN z 1)).length ≤ 18) : Ct l yX5_gatherCandidates wsX5_gatherCandidates 12 228 G [.ref (al (15, 0)), .ref (al (1, p)), .int (nI b)] f (fun v9 f' => ∃ cap, cap ≤ 25 ∧ v9 = none ∧ RC G al fi (zPut z (13, 3) (gaL fi z b p (zN z 1)) cap) f' ∧ FrC f f') 18 450 := by
  refine Ct.of (cc := cX5_gatherCandidates) (maxL := 5) (ret := none) (by decide) rfl (Nat.le_of_ble_eq_true rfl) (lv := [(0, _), (1, _), (2, _)]) rfl (by simp [Value.category]) ?_
  intro K X hL hG hr hnm
  subst hL; subst hG
  have hF : FrC f f := FrC.rf
  have hN := hR.n1 (j := 1) (by decide)
  have hZ := hR.len (j := 1) (by decide)
  have hcf : zN z 1 ≤ 1000 := hN
  have L : ∀ (n i : Nat), zN z 1 - i = n → i ≤ zN z 1 → b ≤ i → ∀ (f1 : Wo) (cap : Nat), cap ≤ 25 → RC (kG K) al fi (zPut z (13, 3) (gaL fi z b p i) cap) f1 → FrC f f1 → V K f1 (18 - (gaL fi z b p i).length) (25 * (18 - (gaL fi z b p i).length)) 16 [(0, .ref (al (15, 0))), (1, .ref (al (1, p))), (2, .int (nI b)), (3, .int (nI i))] [] := by
    intro n
    induction n using Nat.strongRecOn with
    | ind n ih =>
      intro i hn hi hbi f1 cap hcap hR hF
      refine V_iload_n X rfl dX5_gatherCandidates_16 ?_
      refine V_aload_n X rfl dX5_gatherCandidates_17 ?_
      refine V_get X (T := TX5) (N := 5) (v := .ref _) 1 (hR.2.1 (15, 0) (dm15)) rfl hinX5_gatherCandidates_X5 (by decide) (by decide +kernel) (fun _ h9 => h9) (rfl) dX5_gatherCandidates_18 ?_
      refine V_csize X hR (rest := _) (13, 1) (dl13 (by decide)) gX5_gatherCandidates_Jx4a65c_size_8abf5 (Nat.le_of_ble_eq_true rfl) (Nat.le_of_ble_eq_true rfl) (Nat.le_of_ble_eq_true rfl) dX5_gatherCandidates_21 ?_
      refine V.top (y := nI (zN z 1)) (congrArg nI (hR.len (by decide))) ?_
      refine V_icmp_ge X (tgt := 81) (by decide) dX5_gatherCandidates_24 (fun hc24 => ?_) (fun hc24 => ?_)
      · have hiN := lim_ge (N := zN z 1) rfl hc24 hi (by omega)
        exact V_vret X hr (⟨cap, hcap, rfl, (by rw [hiN] at hR; exact hR), hF⟩) dX5_gatherCandidates_81
      · have hlt := lim_lt (N := zN z 1) rfl hc24 hi (by omega)
        refine V_aload_n X rfl dX5_gatherCandidates_27 ?_
        refine V_get X (T := TX5) (N := 5) (v := .ref _) 1 (hR.2.1 (15, 0) (dm15)) rfl hinX5_gatherCandidates_X5 (by decide) (by decide +kernel) (fun _ h9 => h9) (rfl) dX5_gatherCandidates_28 ?_
        refine V_iload_n X rfl dX5_gatherCandidates_31 ?_
        refine V_cnth X hR (rest := _) (13, 1) (dl13 (by decide)) (i) (i) (hR.main (by decide) hlt) gX5_gatherCandidates_Jx4a65c_get_915e3 (Nat.le_of_ble_eq_true rfl) (Nat.le_of_ble_eq_true rfl) (Nat.le_of_ble_eq_true rfl) dX5_gatherCandidates_32 ?_
        refine V_cast X (hR.2.1 (1, i) (dm1 hlt)) rfl (by decide +kernel) dX5_gatherCandidates_35 ?_
        refine V_astore X (lv' := [(4, _), (0, _), (1, _), (2, _), (3, _)]) (by decide) rfl dX5_gatherCandidates_38 ?_
        refine V_aload X rfl dX5_gatherCandidates_40 ?_
        refine V_get X (T := TX2) (N := 5) (v := .int _) 3 (hR.2.1 (1, i) (dm1 hlt)) rfl hinX5_gatherCandidates_X2 (by decide) (by decide +kernel) (fun _ h9 => h9) (rfl) dX5_gatherCandidates_42 ?_
        refine V_iconst X (v := 1) (by decide) dX5_gatherCandidates_45 ?_
        refine V_icmp_ne X (tgt := 75) (by decide) dX5_gatherCandidates_46 (fun hc46 => ?_) (fun hc46 => ?_)
        · refine V_iinc X (lv' := [(3, _), (4, _), (0, _), (1, _), (2, _)]) (v := nI (i + 1)) rfl (nI_1 _) (by decide) rfl dX5_gatherCandidates_75 ?_
          refine V_goto X (tgt := 16) (by decide) dX5_gatherCandidates_78 ?_
          refine V.lvs (lv' := [(0, _), (1, _), (2, _), (3, _)]) rfl ?_
          have e9 := gaL_f (fi := fi) (z := z) (b := b) (p := p) (i := i) (by unfold gaT; rw [decide_eq_false hc46, Bool.false_and, Bool.and_false])
          rw [← e9]
          exact ih (zN z 1 - (i + 1)) (by omega) (i + 1) rfl (by omega) (by omega) _ cap hcap (by rw [e9]; exact hR) hF
        · refine V_aload X rfl dX5_gatherCandidates_49 ?_
          refine V_aload_n X rfl dX5_gatherCandidates_51 ?_
          refine V_get X (T := TX5) (N := 5) (v := .int _) 4 (hR.2.1 (15, 0) (dm15)) rfl hinX5_gatherCandidates_X5 (by decide) (by decide +kernel) (fun _ h9 => h9) (rfl) dX5_gatherCandidates_52 ?_
          refine V_aload_n X rfl dX5_gatherCandidates_55 ?_
          refine V_callVp X (rest := _) (c_X2_fitsAt _ _ _ al fi _ hR i p hlt hp _) (hR.2.1 (1, i) (dm1 hlt)) rfl gX5_gatherCandidates_X2_fitsAt rfl hdv_X2_fitsAt (Nat.le_of_ble_eq_true rfl) (Nat.le_of_ble_eq_true rfl) rfl (Nat.le_of_ble_eq_true rfl) dX5_gatherCandidates_56 ?_
          refine V_if_eq X (tgt := 75) (by decide) dX5_gatherCandidates_59 (fun hc59 => ?_) (fun hc59 => ?_)
          · refine V_iinc X (lv' := [(3, _), (4, _), (0, _), (1, _), (2, _)]) (v := nI (i + 1)) rfl (nI_1 _) (by decide) rfl dX5_gatherCandidates_75 ?_
            refine V_goto X (tgt := 16) (by decide) dX5_gatherCandidates_78 ?_
            refine V.lvs (lv' := [(0, _), (1, _), (2, _), (3, _)]) rfl ?_
            have e9 := gaL_f (fi := fi) (z := z) (b := b) (p := p) (i := i) (by unfold gaT; rw [show ftC fi z (fi 18 0) i p = false from bI_eq0 hc59, Bool.and_false, Bool.and_false])
            rw [← e9]
            exact ih (zN z 1 - (i + 1)) (by omega) (i + 1) rfl (by omega) (by omega) _ cap hcap (by rw [e9]; exact hR) hF
          · refine V_aload_n X rfl dX5_gatherCandidates_62 ?_
            refine V_get X (T := TX5) (N := 5) (v := .ref _) 3 (hR.2.1 (15, 0) (dm15)) rfl hinX5_gatherCandidates_X5 (by decide) (by decide +kernel) (fun _ h9 => h9) (rfl) dX5_gatherCandidates_63 ?_
            refine V_get X (T := TX0) (N := 5) (v := .ref _) 0 (hR.2.1 (14, 0) (dm14)) rfl hinX5_gatherCandidates_X0 (by decide) (by decide +kernel) (fun _ h9 => h9) (rfl) dX5_gatherCandidates_66 ?_
            refine V_aload X rfl dX5_gatherCandidates_69 ?_
            have hT9 : gaT fi z b p i = true := by unfold gaT; rw [decide_eq_true hbi, decide_eq_true hc46, show ftC fi z (fi 18 0) i p = true from bI_ne0 hc59]; rfl
            have e9 := gaL_t hT9
            have hl18 := gaL_le fi z b p (show i + 1 ≤ zN z 1 by omega)
            rw [e9, List.length_append] at hl18
            have hl17 : (gaL fi z b p i).length ≤ 17 := by simp at hl18; omega
            have hlc : (gaL fi z b p i).length ≤ cap := by have := (hR.cap (dl13 (k := 3) (by decide))).2; rwa [zL_put, zC_put] at this
            obtain ⟨hb1, hb2, hb3⟩ := cap2_le hcap hl17 hlc
            refine V_cadd (kc' := 18 - (gaL fi z b p (i + 1)).length) (ks' := 25 * (18 - (gaL fi z b p (i + 1)).length)) X hR hF (rest := _) (13, 3) (dl13 (by decide)) (Or.inr (by show 3 ≤ 3; omega)) i hlt (by rw [zL_put, zC_put]; omega) gX5_gatherCandidates_Jx4a65c_add_9ea2d (Nat.le_of_ble_eq_true rfl) (Nat.le_of_ble_eq_true rfl) (Nat.le_of_ble_eq_true rfl) (by rw [zL_put, zC_put, e9, List.length_append]; simp; omega) (by rw [zL_put, zC_put, e9, List.length_append]; simp; omega) dX5_gatherCandidates_71 (fun f hR hF => ?_)
            rw [zPut_zPut, zL_put, zC_put, ← e9] at hR
            refine V_pop X rfl dX5_gatherCandidates_74 ?_
            refine V_iinc X (lv' := [(3, _), (4, _), (0, _), (1, _), (2, _)]) (v := nI (i + 1)) rfl (nI_1 _) (by decide) rfl dX5_gatherCandidates_75 ?_
            refine V_goto X (tgt := 16) (by decide) dX5_gatherCandidates_78 ?_
            refine V.lvs (lv' := [(0, _), (1, _), (2, _), (3, _)]) rfl ?_
            exact ih (zN z 1 - (i + 1)) (by omega) (i + 1) rfl (by omega) (by omega) _ _ (cap2_le hcap hl17 hlc).1 hR hF
  refine V_aload_n X rfl dX5_gatherCandidates_0 ?_
  refine V_get X (T := TX5) (N := 5) (v := .ref _) 3 (hR.2.1 (15, 0) (dm15)) rfl hinX5_gatherCandidates_X5 (by decide) (by decide +kernel) (fun _ h9 => h9) (rfl) dX5_gatherCandidates_1 ?_
  refine V_get X (T := TX0) (N := 5) (v := .ref _) 0 (hR.2.1 (14, 0) (dm14)) rfl hinX5_gatherCandidates_X0 (by decide) (by decide +kernel) (fun _ h9 => h9) (rfl) dX5_gatherCandidates_4 ?_
  refine V_cclr X hR hF (rest := _) (13, 3) (dl13 (by decide)) (Or.inr (by show 3 ≤ 3; omega)) gX5_gatherCandidates_Jx4a65c_clear_da8c8 (Nat.le_of_ble_eq_true rfl) (Nat.le_of_ble_eq_true rfl) (Nat.le_of_ble_eq_true rfl) dX5_gatherCandidates_7 (fun f hR hF => ?_)
  refine V_iconst X (v := 0) (by decide) dX5_gatherCandidates_10 ?_
  refine V_iload_n X rfl dX5_gatherCandidates_11 ?_
  refine V_max X (by decide +kernel) (by decide +kernel) (by decide +kernel) (by decide +kernel) (Nat.le_of_ble_eq_true rfl) (Nat.le_of_ble_eq_true rfl) dX5_gatherCandidates_12 ?_
  refine V.top (y := nI b) (by by_cases h0 : b = 0; subst h0; decide; exact if_pos (nI_lt (a := 0) (b := b) (by omega) (by omega))) ?_
  refine V_istore_n X (lv' := [(3, _), (0, _), (1, _), (2, _)]) (by decide) rfl dX5_gatherCandidates_15 ?_
  refine V.lvs (lv' := [(0, _), (1, _), (2, _), (3, _)]) rfl ?_
  have h0 := L _ b rfl (by omega) (Nat.le_refl _) _ _ hcc (by rw [gaL_0]; exact hR) hF
  rw [gaL_0] at h0
  exact h0
theorem hinX0_dropLast_X0 : ∀ w ∈ wsX00, w ∈ wsX0_dropLast := by decide +kernel
set_option maxHeartbeats 4000000 in
set_option maxRecDepth 100000 in
theorem c_X0_dropLast (l : Launch) (G : GG) (f : Wo) (al : Tg → Nat) (fi : Nat → Nat → Int32) (z : CZ) (hR : RC G al fi z f) (ys : List Nat) (y : Nat) (hys : zL z (13, 4) = ys ++ [y]) : Ct l yX0_dropLast wsX0_dropLast 9 162 G [.ref (al (14, 0))] f (fun v9 f' => v9 = none ∧ RC G al (fi) (zPut z (13, 4) ys (zC z (13, 4))) f' ∧ FrC f f') 0 0 := by
  refine Ct.of (cc := cX0_dropLast) (maxL := 1) (ret := none) (by decide) rfl (Nat.le_of_ble_eq_true rfl) (lv := [(0, _)]) rfl (by simp [Value.category]) ?_
  intro K X hL hG hr hnm
  subst hL; subst hG
  have hF : FrC f f := FrC.rf
  refine V_aload_n X rfl dX0_dropLast_0 ?_
  refine V_get X (T := TX0) (N := 5) (v := .ref _) 1 (hR.2.1 (14, 0) (dm14)) rfl hinX0_dropLast_X0 (by decide) (by decide +kernel) (fun _ h9 => h9) (rfl) dX0_dropLast_1 ?_
  refine V_cemp X hR (rest := _) (13, 4) (dl13 (by decide)) gX0_dropLast_Jx4a65c_isEmpty_aae02 (Nat.le_of_ble_eq_true rfl) (Nat.le_of_ble_eq_true rfl) (Nat.le_of_ble_eq_true rfl) dX0_dropLast_4 ?_
  refine V_if_ne X (tgt := 27) (by decide) dX0_dropLast_7 (fun hc7 => absurd hc7 (fun q => q (by rw [hys, decide_eq_false (by simp)]; rfl))) (fun hc7 => ?_)
  refine V_aload_n X rfl dX0_dropLast_10 ?_
  refine V_get X (T := TX0) (N := 5) (v := .ref _) 1 (hR.2.1 (14, 0) (dm14)) rfl hinX0_dropLast_X0 (by decide) (by decide +kernel) (fun _ h9 => h9) (rfl) dX0_dropLast_11 ?_
  refine V_aload_n X rfl dX0_dropLast_14 ?_
  refine V_get X (T := TX0) (N := 5) (v := .ref _) 1 (hR.2.1 (14, 0) (dm14)) rfl hinX0_dropLast_X0 (by decide) (by decide +kernel) (fun _ h9 => h9) (rfl) dX0_dropLast_15 ?_
  refine V_csize X hR (rest := _) (13, 4) (dl13 (by decide)) gX0_dropLast_Jx4a65c_size_8abf5 (Nat.le_of_ble_eq_true rfl) (Nat.le_of_ble_eq_true rfl) (Nat.le_of_ble_eq_true rfl) dX0_dropLast_18 ?_
  refine V_iconst X (v := 1) (by decide) dX0_dropLast_21 ?_
  refine V_isub X dX0_dropLast_22 ?_
  refine V.top (y := nI ys.length) (by rw [hys, List.length_append]; exact nI_pred _) ?_
  refine V_crem X hR hF (rest := _) (13, 4) (dl13 (by decide)) (Or.inr (by show 3 ≤ 4; omega)) ys y hys gX0_dropLast_Jx4a65c_remove_915e3 (Nat.le_of_ble_eq_true rfl) (Nat.le_of_ble_eq_true rfl) (Nat.le_of_ble_eq_true rfl) dX0_dropLast_23 (fun f hR hF => ?_)
  refine V_pop X rfl dX0_dropLast_26 ?_
  exact V_vret X hr (⟨rfl, hR, hF⟩) dX0_dropLast_27
