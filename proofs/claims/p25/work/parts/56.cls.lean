/-! ===== LobbyMaker: its loops ===== -/
def qcT (fi : Nat → Nat → Int32) (i : Nat) : Int32 := if fi 7 i = 1 then 1 else 0
def mqT (fi : Nat → Nat → Int32) (la : Nat → Option Nat) (s : Int32) (i : Nat) : Bool := !(hsI s (nI i)) || (decide (stC fi (la i) = 0) && decide (fi 4 i ≤ fi 18 0))
def mqB (fi : Nat → Nat → Int32) (la : Nat → Option Nat) (s : Int32) (n : Nat) : Bool := (List.range n).all (mqT fi la s)
theorem all_t {n : Nat} {f : Nat → Bool} (h : ∀ j, j < n → f j = true) : (List.range n).all f = true := List.all_eq_true.mpr fun j hj => h j (List.mem_range.mp hj)
theorem all_f {n : Nat} {f : Nat → Bool} {j : Nat} (hj : j < n) (h : f j = false) : (List.range n).all f = false := by
  cases hb : (List.range n).all f with
  | false => rfl
  | true => exact absurd (List.all_eq_true.mp hb j (List.mem_range.mpr hj)) (by rw [h]; decide)
def mrT (fi : Nat → Nat → Int32) (s : Int32) (i : Nat) : Int32 := if hsI s (nI i) = true then fi 1 i else 0
def mrC (fi : Nat → Nat → Int32) (n : Nat) (s : Int32) : Int32 := sumI (mrT fi s) n / 3
def shC (fi : Nat → Nat → Int32) (n : Nat) (a b : Int32) : Int32 := let x := 500 + mrC fi n a - mrC fi n b; let y := if 50 < x then x else 50; if y < 950 then y else 950
def lfF (fi : Nat → Nat → Int32) (s g : Int32) : Nat → Nat → Nat → Int32
  | 0 => fi
  | n + 1 => if hsI s (nI n) = true then lrnF (lfF fi s g n) n g else lfF fi s g n
def exL (f0 : Nat → Nat → Int32) (la : Nat → Option Nat) (aw dl : Int32) : Nat → Nat → Nat → Int32
  | 0 => f0
  | n + 1 => if hsI aw (nI n) = true then penF (exL f0 la aw dl n) (la n) n dl else exL f0 la aw dl n
theorem penF_far (fi : Nat → Nat → Int32) (la : Option Nat) (k : Nat) (m : Int32) {j : Nat} (h : 8 ≤ j) (b : Nat) : penF fi la k m j b = fi j b := by
  unfold penF
  rw [fu_ne _ _ (Or.inl (by omega)), fu_ne _ _ (Or.inl (by omega))]
  cases la with
  | none => rfl
  | some p => exact fu_ne _ _ (Or.inl (by omega))
theorem exL_far (f0 : Nat → Nat → Int32) (la : Nat → Option Nat) (aw dl : Int32) {j : Nat} (h : 8 ≤ j) (b : Nat) : ∀ n, exL f0 la aw dl n j b = f0 j b
  | 0 => rfl
  | n + 1 => by
    unfold exL
    split
    · rw [penF_far _ _ _ _ h]; exact exL_far f0 la aw dl h b n
    · exact exL_far f0 la aw dl h b n
theorem sndF_far (fi : Nat → Nat → Int32) (x : Int32) (xs : List Nat) {j : Nat} (h : j ≠ 7) (b : Nat) : sndF fi x xs j b = fi j b := by unfold sndF; rw [va_up_ne _ _ h]
def exF (fi : Nat → Nat → Int32) (z : CZ) (m : Nat) : Nat → Nat → Int32 := exL (sndF (fu fi 13 m 2) 1 (zL z (12, m))) (zA z) (fi 14 m) (fi 12 m) (zN z 0)
/-- the matches that a passing of time ends, one after another: how many, and the numbers -/
def psL (fi : Nat → Nat → Int32) (z : CZ) : Nat → Int32 × (Nat → Nat → Int32)
  | 0 => (0, fi)
  | n + 1 => let c := psL fi z n; if c.2 13 n = 0 ∧ c.2 12 n ≤ c.2 18 0 then (c.1 + 1, exF c.2 z n) else c
def fnF (fi : Nat → Nat → Int32) (z : CZ) (m : Nat) (w : Int32) : Nat → Nat → Int32 := let g := (if w = 0 then 1000 else 0) - shC fi (zN z 0) (fi 9 m) (fi 10 m); let f1 := lfF (lfF fi (fi 9 m) g (zN z 0)) (fi 10 m) (-g) (zN z 0); sndF (fu f1 13 m 3) 0 (zL z (12, m))
theorem lrnF_far (fi : Nat → Nat → Int32) (k : Nat) (g : Int32) {j : Nat} (h : 4 ≤ j) (b : Nat) : lrnF fi k g j b = fi j b := by
  unfold lrnF
  rw [fu_ne _ _ (Or.inl (by omega)), fu_ne _ _ (Or.inl (by omega)), fu_ne _ _ (Or.inl (by omega))]
theorem lfF_far (fi : Nat → Nat → Int32) (s g : Int32) {j : Nat} (h : 4 ≤ j) (b : Nat) : ∀ n, lfF fi s g n j b = fi j b
  | 0 => rfl
  | n + 1 => by
    unfold lfF
    split
    · rw [lrnF_far _ _ _ h]; exact lfF_far fi s g h b n
    · exact lfF_far fi s g h b n
theorem hinX5_queued_X2 : ∀ w ∈ wsX20, w ∈ wsX5_queued := by decide +kernel
theorem hinX5_queued_X5 : ∀ w ∈ wsX50, w ∈ wsX5_queued := by decide +kernel
set_option maxHeartbeats 4000000 in
set_option maxRecDepth 100000 in
theorem c_X5_queued (l : Launch) (G : GG) (f : Wo) (al : Tg → Nat) (fi : Nat → Nat → Int32) (z : CZ) (hR : RC G al fi z f) : Cp l yX5_queued wsX5_queued 9 160 G [.ref (al (15, 0))] f (.int (sumI (qcT fi) (zN z 1))) := by
  refine Ct.of (cc := cX5_queued) (maxL := 3) (ret := (some .int)) (by decide) rfl (Nat.le_of_ble_eq_true rfl) (lv := [(0, _)]) rfl (by simp [Value.category]) ?_
  intro K X hL hG hr hnm
  subst hL; subst hG
  have hN := hR.n1 (j := 1) (by decide)
  have hZ := hR.len (j := 1) (by decide)
  have L : ∀ (n i : Nat), zN z 1 - i = n → i ≤ zN z 1 → V K f 0 0 4 [(0, .ref (al (15, 0))), (1, .int (sumI (qcT fi) i)), (2, .int (nI i))] [] := by
    intro n
    induction n using Nat.strongRecOn with
    | ind n ih =>
      intro i hn hi
      refine V_iload_n X rfl dX5_queued_4 ?_
      refine V_aload_n X rfl dX5_queued_5 ?_
      refine V_get X (T := TX5) (N := 5) (v := .ref _) 1 (hR.2.1 (15, 0) (dm15)) rfl hinX5_queued_X5 (by decide) (by decide +kernel) (fun _ h9 => h9) (rfl) dX5_queued_6 ?_
      refine V_csize X hR (rest := _) (13, 1) (dl13 (by decide)) gX5_queued_Jx4a65c_size_8abf5 (Nat.le_of_ble_eq_true rfl) (Nat.le_of_ble_eq_true rfl) (Nat.le_of_ble_eq_true rfl) dX5_queued_9 ?_
      refine V.top (y := nI (zN z 1)) (by rw [hR.len (by decide)]) ?_
      refine V_icmp_ge X (tgt := 42) (by decide) dX5_queued_12 (fun hc12 => ?_) (fun hc12 => ?_)
      · have hiN := lim_ge (N := zN z 1) rfl hc12 hi (by omega)
        refine V_iload_n X rfl dX5_queued_42 ?_
        exact V_iret X hr (⟨by rw [hiN], rfl⟩) dX5_queued_43
      · have hlt := lim_lt (N := zN z 1) rfl hc12 hi (by omega)
        refine V_aload_n X rfl dX5_queued_15 ?_
        refine V_get X (T := TX5) (N := 5) (v := .ref _) 1 (hR.2.1 (15, 0) (dm15)) rfl hinX5_queued_X5 (by decide) (by decide +kernel) (fun _ h9 => h9) (rfl) dX5_queued_16 ?_
        refine V_iload_n X rfl dX5_queued_19 ?_
        refine V_cnth X hR (rest := _) (13, 1) (dl13 (by decide)) (i) (i) (hR.main (by decide) hlt) gX5_queued_Jx4a65c_get_915e3 (Nat.le_of_ble_eq_true rfl) (Nat.le_of_ble_eq_true rfl) (Nat.le_of_ble_eq_true rfl) dX5_queued_20 ?_
        refine V_cast X (hR.2.1 (1, i) (dm1 hlt)) rfl (by decide +kernel) dX5_queued_23 ?_
        refine V_get X (T := TX2) (N := 5) (v := .int _) 3 (hR.2.1 (1, i) (dm1 hlt)) rfl hinX5_queued_X2 (by decide) (by decide +kernel) (fun _ h9 => h9) (rfl) dX5_queued_26 ?_
        refine V_iconst X (v := 1) (by decide) dX5_queued_29 ?_
        refine V_icmp_ne X (tgt := 36) (by decide) dX5_queued_30 (fun hc30 => ?_) (fun hc30 => ?_)
        · refine V_iinc X (lv' := [(2, _), (0, _), (1, _)]) (v := nI (i + 1)) rfl (nI_1 _) (by decide) rfl dX5_queued_36 ?_
          refine V_goto X (tgt := 4) (by decide) dX5_queued_39 ?_
          refine V.lvs (lv' := [(0, _), (1, _), (2, _)]) rfl ?_
          rw [show sumI (qcT fi) i = sumI (qcT fi) (i + 1) by show _ = sumI (qcT fi) i + qcT fi i; rw [qcT, if_neg hc30, Int32.add_zero]]
          exact ih (zN z 1 - (i + 1)) (by omega) (i + 1) rfl (by omega)
        · refine V_iinc X (lv' := [(1, _), (0, _), (2, _)]) (v := sumI (qcT fi) (i + 1)) rfl (congrArg (sumI (qcT fi) i + ·) (if_pos hc30).symm) (by decide) rfl dX5_queued_33 ?_
          refine V_iinc X (lv' := [(2, _), (1, _), (0, _)]) (v := nI (i + 1)) rfl (nI_1 _) (by decide) rfl dX5_queued_36 ?_
          refine V_goto X (tgt := 4) (by decide) dX5_queued_39 ?_
          refine V.lvs (lv' := [(0, _), (1, _), (2, _)]) rfl ?_
          exact ih (zN z 1 - (i + 1)) (by omega) (i + 1) rfl (by omega)
  refine V_iconst X (v := 0) (by decide) dX5_queued_0 ?_
  refine V_istore_n X (lv' := [(1, _), (0, _)]) (by decide) rfl dX5_queued_1 ?_
  refine V_iconst X (v := 0) (by decide) dX5_queued_2 ?_
  refine V_istore_n X (lv' := [(2, _), (1, _), (0, _)]) (by decide) rfl dX5_queued_3 ?_
  refine V.lvs (lv' := [(0, _), (1, _), (2, _)]) rfl ?_
  exact L _ 0 rfl (Nat.zero_le _)
theorem hinX5_allMayQueue_X3 : ∀ w ∈ wsX30, w ∈ wsX5_allMayQueue := by decide +kernel
theorem hinX5_allMayQueue_X5 : ∀ w ∈ wsX50, w ∈ wsX5_allMayQueue := by decide +kernel
set_option maxHeartbeats 4000000 in
set_option maxRecDepth 100000 in
theorem c_X5_allMayQueue (l : Launch) (G : GG) (f : Wo) (al : Tg → Nat) (fi : Nat → Nat → Int32) (z : CZ) (hR : RC G al fi z f) (s : Int32) : Cp l yX5_allMayQueue wsX5_allMayQueue 9 160 G [.ref (al (15, 0)), .int s] f (.int (bI (mqB fi (zA z) s (zN z 0)))) := by
  refine Ct.of (cc := cX5_allMayQueue) (maxL := 4) (ret := (some .boolean)) (by decide) rfl (Nat.le_of_ble_eq_true rfl) (lv := [(0, _), (1, _)]) rfl (by simp [Value.category]) ?_
  intro K X hL hG hr hnm
  subst hL; subst hG
  have hN := hR.n1 (j := 0) (by decide)
  have hZ := hR.len (j := 0) (by decide)
  have L : ∀ (n i : Nat), zN z 0 - i = n → i ≤ zN z 0 → (∀ j, j < i → mqT fi (zA z) s j = true) → V K f 0 0 2 [(0, .ref (al (15, 0))), (1, .int s), (2, .int (nI i))] [] := by
    intro n
    induction n using Nat.strongRecOn with
    | ind n ih =>
      intro i hn hi ha
      refine V_iload_n X rfl dX5_allMayQueue_2 ?_
      refine V_aload_n X rfl dX5_allMayQueue_3 ?_
      refine V_get X (T := TX5) (N := 5) (v := .ref _) 0 (hR.2.1 (15, 0) (dm15)) rfl hinX5_allMayQueue_X5 (by decide) (by decide +kernel) (fun _ h9 => h9) (rfl) dX5_allMayQueue_4 ?_
      refine V_csize X hR (rest := _) (13, 0) (dl13 (by decide)) gX5_allMayQueue_Jx4a65c_size_8abf5 (Nat.le_of_ble_eq_true rfl) (Nat.le_of_ble_eq_true rfl) (Nat.le_of_ble_eq_true rfl) dX5_allMayQueue_7 ?_
      refine V.top (y := nI (zN z 0)) (by rw [hR.len (by decide)]) ?_
      refine V_icmp_ge X (tgt := 59) (by decide) dX5_allMayQueue_10 (fun hc10 => ?_) (fun hc10 => ?_)
      · have hiN := lim_ge (N := zN z 0) rfl hc10 hi (by omega)
        refine V_iconst X (v := 1) (by decide) dX5_allMayQueue_59 ?_
        exact V_zret X hr (by decide) (⟨bI_t (all_t fun j hj => ha j (by omega)), rfl⟩) dX5_allMayQueue_60
      · have hlt := lim_lt (N := zN z 0) rfl hc10 hi (by omega)
        refine V_aload_n X rfl dX5_allMayQueue_13 ?_
        refine V_get X (T := TX5) (N := 5) (v := .ref _) 0 (hR.2.1 (15, 0) (dm15)) rfl hinX5_allMayQueue_X5 (by decide) (by decide +kernel) (fun _ h9 => h9) (rfl) dX5_allMayQueue_14 ?_
        refine V_iload_n X rfl dX5_allMayQueue_17 ?_
        refine V_cnth X hR (rest := _) (13, 0) (dl13 (by decide)) (i) (i) (hR.main (by decide) hlt) gX5_allMayQueue_Jx4a65c_get_915e3 (Nat.le_of_ble_eq_true rfl) (Nat.le_of_ble_eq_true rfl) (Nat.le_of_ble_eq_true rfl) dX5_allMayQueue_18 ?_
        refine V_cast X (hR.2.1 (0, i) (dm0 hlt)) rfl (by decide +kernel) dX5_allMayQueue_21 ?_
        refine V_astore_n X (lv' := [(3, _), (0, _), (1, _), (2, _)]) (by decide) rfl dX5_allMayQueue_24 ?_
        refine V_iload_n X rfl dX5_allMayQueue_25 ?_
        refine V_iload_n X rfl dX5_allMayQueue_26 ?_
        refine V_callSp X (rest := _) (c_X5_has _ _ _ _ _) gX5_allMayQueue_X5_has rfl hds_X5_has (Nat.le_of_ble_eq_true rfl) (Nat.le_of_ble_eq_true rfl) rfl (Nat.le_of_ble_eq_true rfl) dX5_allMayQueue_27 ?_
        refine V_if_eq X (tgt := 53) (by decide) dX5_allMayQueue_30 (fun hc30 => ?_) (fun hc30 => ?_)
        · refine V_iinc X (lv' := [(2, _), (3, _), (0, _), (1, _)]) (v := nI (i + 1)) rfl (nI_1 _) (by decide) rfl dX5_allMayQueue_53 ?_
          refine V_goto X (tgt := 2) (by decide) dX5_allMayQueue_56 ?_
          refine V.lvs (lv' := [(0, _), (1, _), (2, _)]) rfl ?_
          exact ih (zN z 0 - (i + 1)) (by omega) (i + 1) rfl (by omega) (fun j hj => by
        by_cases hji : j = i
        · subst hji; unfold mqT; rw [bI_eq0 hc30]; rfl
        · exact ha j (by omega))
        · refine V_aload_n X rfl dX5_allMayQueue_33 ?_
          refine V_callVp X (rest := _) (c_X3_standing _ _ _ al fi z hR i hlt) (hR.2.1 (0, i) (dm0 hlt)) rfl gX5_allMayQueue_X3_standing rfl hdv_X3_standing (Nat.le_of_ble_eq_true rfl) (Nat.le_of_ble_eq_true rfl) rfl (Nat.le_of_ble_eq_true rfl) dX5_allMayQueue_34 ?_
          refine V_if_ne X (tgt := 51) (by decide) dX5_allMayQueue_37 (fun hc37 => ?_) (fun hc37 => ?_)
          · refine V_iconst X (v := 0) (by decide) dX5_allMayQueue_51 ?_
            exact V_zret X hr (by decide) (⟨bI_f (all_f (j := i) hlt (by unfold mqT; rw [bI_ne0 hc30, decide_eq_false hc37]; rfl)), rfl⟩) dX5_allMayQueue_52
          · refine V_aload_n X rfl dX5_allMayQueue_40 ?_
            refine V_get X (T := TX3) (N := 6) (v := .int _) 4 (hR.2.1 (0, i) (dm0 hlt)) rfl hinX5_allMayQueue_X3 (by decide) (by decide +kernel) (fun _ h9 => h9) (rfl) dX5_allMayQueue_41 ?_
            refine V_aload_n X rfl dX5_allMayQueue_44 ?_
            refine V_get X (T := TX5) (N := 5) (v := .int _) 4 (hR.2.1 (15, 0) (dm15)) rfl hinX5_allMayQueue_X5 (by decide) (by decide +kernel) (fun _ h9 => h9) (rfl) dX5_allMayQueue_45 ?_
            refine V_icmp_le X (tgt := 53) (by decide) dX5_allMayQueue_48 (fun hc48 => ?_) (fun hc48 => ?_)
            · refine V_iinc X (lv' := [(2, _), (3, _), (0, _), (1, _)]) (v := nI (i + 1)) rfl (nI_1 _) (by decide) rfl dX5_allMayQueue_53 ?_
              refine V_goto X (tgt := 2) (by decide) dX5_allMayQueue_56 ?_
              refine V.lvs (lv' := [(0, _), (1, _), (2, _)]) rfl ?_
              exact ih (zN z 0 - (i + 1)) (by omega) (i + 1) rfl (by omega) (fun j hj => by
        by_cases hji : j = i
        · subst hji; unfold mqT; rw [decide_eq_true hc37, decide_eq_true hc48]; exact Bool.or_true _
        · exact ha j (by omega))
            · refine V_iconst X (v := 0) (by decide) dX5_allMayQueue_51 ?_
              exact V_zret X hr (by decide) (⟨bI_f (all_f (j := i) hlt (by unfold mqT; rw [bI_ne0 hc30, decide_eq_false hc48, Bool.and_false]; rfl)), rfl⟩) dX5_allMayQueue_52
  refine V_iconst X (v := 0) (by decide) dX5_allMayQueue_0 ?_
  refine V_istore_n X (lv' := [(2, _), (0, _), (1, _)]) (by decide) rfl dX5_allMayQueue_1 ?_
  refine V.lvs (lv' := [(0, _), (1, _), (2, _)]) rfl ?_
  exact L _ 0 rfl (Nat.zero_le _) (fun j hj => absurd hj (by omega))
theorem hinX5_meanRating_X3 : ∀ w ∈ wsX30, w ∈ wsX5_meanRating := by decide +kernel
theorem hinX5_meanRating_X5 : ∀ w ∈ wsX50, w ∈ wsX5_meanRating := by decide +kernel
set_option maxHeartbeats 4000000 in
set_option maxRecDepth 100000 in
theorem c_X5_meanRating (l : Launch) (G : GG) (f : Wo) (al : Tg → Nat) (fi : Nat → Nat → Int32) (z : CZ) (hR : RC G al fi z f) (s : Int32) : Cp l yX5_meanRating wsX5_meanRating 9 160 G [.ref (al (15, 0)), .int s] f (.int (mrC fi (zN z 0) s)) := by
  refine Ct.of (cc := cX5_meanRating) (maxL := 4) (ret := (some .int)) (by decide) rfl (Nat.le_of_ble_eq_true rfl) (lv := [(0, _), (1, _)]) rfl (by simp [Value.category]) ?_
  intro K X hL hG hr hnm
  subst hL; subst hG
  have hN := hR.n1 (j := 0) (by decide)
  have hZ := hR.len (j := 0) (by decide)
  have L : ∀ (n i : Nat), zN z 0 - i = n → i ≤ zN z 0 → V K f 0 0 4 [(0, .ref (al (15, 0))), (1, .int s), (2, .int (sumI (mrT fi s) i)), (3, .int (nI i))] [] := by
    intro n
    induction n using Nat.strongRecOn with
    | ind n ih =>
      intro i hn hi
      refine V_iload_n X rfl dX5_meanRating_4 ?_
      refine V_aload_n X rfl dX5_meanRating_5 ?_
      refine V_get X (T := TX5) (N := 5) (v := .ref _) 0 (hR.2.1 (15, 0) (dm15)) rfl hinX5_meanRating_X5 (by decide) (by decide +kernel) (fun _ h9 => h9) (rfl) dX5_meanRating_6 ?_
      refine V_csize X hR (rest := _) (13, 0) (dl13 (by decide)) gX5_meanRating_Jx4a65c_size_8abf5 (Nat.le_of_ble_eq_true rfl) (Nat.le_of_ble_eq_true rfl) (Nat.le_of_ble_eq_true rfl) dX5_meanRating_9 ?_
      refine V.top (y := nI (zN z 0)) (by rw [hR.len (by decide)]) ?_
      refine V_icmp_ge X (tgt := 46) (by decide) dX5_meanRating_12 (fun hc12 => ?_) (fun hc12 => ?_)
      · have hiN := lim_ge (N := zN z 0) rfl hc12 hi (by omega)
        refine V_iload_n X rfl dX5_meanRating_46 ?_
        refine V_iconst X (v := 3) (by decide) dX5_meanRating_47 ?_
        refine V_idiv X (by decide) dX5_meanRating_48 ?_
        exact V_iret X hr (⟨by rw [hiN]; rfl, rfl⟩) dX5_meanRating_49
      · have hlt := lim_lt (N := zN z 0) rfl hc12 hi (by omega)
        refine V_iload_n X rfl dX5_meanRating_15 ?_
        refine V_iload_n X rfl dX5_meanRating_16 ?_
        refine V_callSp X (rest := _) (c_X5_has _ _ _ _ _) gX5_meanRating_X5_has rfl hds_X5_has (Nat.le_of_ble_eq_true rfl) (Nat.le_of_ble_eq_true rfl) rfl (Nat.le_of_ble_eq_true rfl) dX5_meanRating_17 ?_
        refine V_if_eq X (tgt := 40) (by decide) dX5_meanRating_20 (fun hc20 => ?_) (fun hc20 => ?_)
        · refine V_iinc X (lv' := [(3, _), (0, _), (1, _), (2, _)]) (v := nI (i + 1)) rfl (nI_1 _) (by decide) rfl dX5_meanRating_40 ?_
          refine V_goto X (tgt := 4) (by decide) dX5_meanRating_43 ?_
          refine V.lvs (lv' := [(0, _), (1, _), (2, _), (3, _)]) rfl ?_
          rw [show sumI (mrT fi s) i = sumI (mrT fi s) (i + 1) by show _ = sumI (mrT fi s) i + mrT fi s i; rw [mrT, if_neg (by rw [bI_eq0 hc20]; decide), Int32.add_zero]]
          exact ih (zN z 0 - (i + 1)) (by omega) (i + 1) rfl (by omega)
        · refine V_iload_n X rfl dX5_meanRating_23 ?_
          refine V_aload_n X rfl dX5_meanRating_24 ?_
          refine V_get X (T := TX5) (N := 5) (v := .ref _) 0 (hR.2.1 (15, 0) (dm15)) rfl hinX5_meanRating_X5 (by decide) (by decide +kernel) (fun _ h9 => h9) (rfl) dX5_meanRating_25 ?_
          refine V_iload_n X rfl dX5_meanRating_28 ?_
          refine V_cnth X hR (rest := _) (13, 0) (dl13 (by decide)) (i) (i) (hR.main (by decide) hlt) gX5_meanRating_Jx4a65c_get_915e3 (Nat.le_of_ble_eq_true rfl) (Nat.le_of_ble_eq_true rfl) (Nat.le_of_ble_eq_true rfl) dX5_meanRating_29 ?_
          refine V_cast X (hR.2.1 (0, i) (dm0 hlt)) rfl (by decide +kernel) dX5_meanRating_32 ?_
          refine V_get X (T := TX3) (N := 6) (v := .int _) 1 (hR.2.1 (0, i) (dm0 hlt)) rfl hinX5_meanRating_X3 (by decide) (by decide +kernel) (fun _ h9 => h9) (rfl) dX5_meanRating_35 ?_
          refine V_iadd X dX5_meanRating_38 ?_
          refine V.top (y := sumI (mrT fi s) (i + 1)) (congrArg (sumI (mrT fi s) i + ·) (if_pos (bI_ne0 hc20)).symm) ?_
          refine V_istore_n X (lv' := [(2, _), (0, _), (1, _), (3, _)]) (by decide) rfl dX5_meanRating_39 ?_
          refine V_iinc X (lv' := [(3, _), (2, _), (0, _), (1, _)]) (v := nI (i + 1)) rfl (nI_1 _) (by decide) rfl dX5_meanRating_40 ?_
          refine V_goto X (tgt := 4) (by decide) dX5_meanRating_43 ?_
          refine V.lvs (lv' := [(0, _), (1, _), (2, _), (3, _)]) rfl ?_
          exact ih (zN z 0 - (i + 1)) (by omega) (i + 1) rfl (by omega)
  refine V_iconst X (v := 0) (by decide) dX5_meanRating_0 ?_
  refine V_istore_n X (lv' := [(2, _), (0, _), (1, _)]) (by decide) rfl dX5_meanRating_1 ?_
  refine V_iconst X (v := 0) (by decide) dX5_meanRating_2 ?_
  refine V_istore_n X (lv' := [(3, _), (2, _), (0, _), (1, _)]) (by decide) rfl dX5_meanRating_3 ?_
  refine V.lvs (lv' := [(0, _), (1, _), (2, _), (3, _)]) rfl ?_
  exact L _ 0 rfl (Nat.zero_le _)
set_option maxHeartbeats 4000000 in
set_option maxRecDepth 100000 in
theorem c_X5_expectedShare (l : Launch) (G : GG) (f : Wo) (al : Tg → Nat) (fi : Nat → Nat → Int32) (z : CZ) (hR : RC G al fi z f) (a b : Int32) : Cp l yX5_expectedShare wsX5_expectedShare 10 183 G [.ref (al (15, 0)), .int a, .int b] f (.int (shC fi (zN z 0) a b)) := by
  refine Ct.of (cc := cX5_expectedShare) (maxL := 4) (ret := (some .int)) (by decide) rfl (Nat.le_of_ble_eq_true rfl) (lv := [(0, _), (1, _), (2, _)]) rfl (by simp [Value.category]) ?_
  intro K X hL hG hr hnm
  subst hL; subst hG
  refine V_sipush X (v := 500) (by decide) dX5_expectedShare_0 ?_
  refine V_aload_n X rfl dX5_expectedShare_3 ?_
  refine V_iload_n X rfl dX5_expectedShare_4 ?_
  refine V_callVp X (rest := _) (c_X5_meanRating _ _ _ al fi z hR a) (hR.2.1 (15, 0) (dm15)) rfl gX5_expectedShare_X5_meanRating rfl hdv_X5_meanRating (Nat.le_of_ble_eq_true rfl) (Nat.le_of_ble_eq_true rfl) rfl (Nat.le_of_ble_eq_true rfl) dX5_expectedShare_5 ?_
  refine V_iadd X dX5_expectedShare_8 ?_
  refine V_aload_n X rfl dX5_expectedShare_9 ?_
  refine V_iload_n X rfl dX5_expectedShare_10 ?_
  refine V_callVp X (rest := _) (c_X5_meanRating _ _ _ al fi z hR b) (hR.2.1 (15, 0) (dm15)) rfl gX5_expectedShare_X5_meanRating rfl hdv_X5_meanRating (Nat.le_of_ble_eq_true rfl) (Nat.le_of_ble_eq_true rfl) rfl (Nat.le_of_ble_eq_true rfl) dX5_expectedShare_11 ?_
  refine V_isub X dX5_expectedShare_14 ?_
  refine V_istore_n X (lv' := [(3, _), (0, _), (1, _), (2, _)]) (by decide) rfl dX5_expectedShare_15 ?_
  refine V_sipush X (v := 950) (by decide) dX5_expectedShare_16 ?_
  refine V_bipush X (v := 50) (by decide) dX5_expectedShare_19 ?_
  refine V_iload_n X rfl dX5_expectedShare_21 ?_
  refine V_max X (by decide +kernel) (by decide +kernel) (by decide +kernel) (by decide +kernel) (Nat.le_of_ble_eq_true rfl) (Nat.le_of_ble_eq_true rfl) dX5_expectedShare_22 ?_
  refine V_min X (by decide +kernel) (by decide +kernel) (by decide +kernel) (by decide +kernel) (Nat.le_of_ble_eq_true rfl) (Nat.le_of_ble_eq_true rfl) dX5_expectedShare_25 ?_
  exact V_iret X hr (⟨rfl, rfl⟩) dX5_expectedShare_28
theorem hinX5_learn_X5 : ∀ w ∈ wsX50, w ∈ wsX5_learn := by decide +kernel
set_option maxHeartbeats 4000000 in
set_option maxRecDepth 100000 in
theorem c_X5_learn (l : Launch) (G : GG) (f : Wo) (al : Tg → Nat) (fi : Nat → Nat → Int32) (z : CZ) (hR : RC G al fi z f) (s g : Int32) : Ct l yX5_learn wsX5_learn 9 160 G [.ref (al (15, 0)), .int s, .int g] f (fun v9 f' => v9 = none ∧ RC G al (lfF fi s g (zN z 0)) (z) f' ∧ FrC f f') 0 0 := by
  refine Ct.of (cc := cX5_learn) (maxL := 4) (ret := none) (by decide) rfl (Nat.le_of_ble_eq_true rfl) (lv := [(0, _), (1, _), (2, _)]) rfl (by simp [Value.category]) ?_
  intro K X hL hG hr hnm
  subst hL; subst hG
  have hF : FrC f f := FrC.rf
  have hN := hR.n1 (j := 0) (by decide)
  have hZ := hR.len (j := 0) (by decide)
  have L : ∀ (n i : Nat), zN z 0 - i = n → i ≤ zN z 0 → ∀ f1 : Wo, RC (kG K) al (lfF fi s g i) z f1 → FrC f f1 → V K f1 0 0 2 [(0, .ref (al (15, 0))), (1, .int s), (2, .int g), (3, .int (nI i))] [] := by
    intro n
    induction n using Nat.strongRecOn with
    | ind n ih =>
      intro i hn hi f1 hR hF
      refine V_iload_n X rfl dX5_learn_2 ?_
      refine V_aload_n X rfl dX5_learn_3 ?_
      refine V_get X (T := TX5) (N := 5) (v := .ref _) 0 (hR.2.1 (15, 0) (dm15)) rfl hinX5_learn_X5 (by decide) (by decide +kernel) (fun _ h9 => h9) (rfl) dX5_learn_4 ?_
      refine V_csize X hR (rest := _) (13, 0) (dl13 (by decide)) gX5_learn_Jx4a65c_size_8abf5 (Nat.le_of_ble_eq_true rfl) (Nat.le_of_ble_eq_true rfl) (Nat.le_of_ble_eq_true rfl) dX5_learn_7 ?_
      refine V.top (y := nI (zN z 0)) (by rw [hR.len (by decide)]) ?_
      refine V_icmp_ge X (tgt := 42) (by decide) dX5_learn_10 (fun hc10 => ?_) (fun hc10 => ?_)
      · have hiN := lim_ge (N := zN z 0) rfl hc10 hi (by omega)
        exact V_vret X hr (⟨rfl, (by rw [hiN] at hR; exact hR), hF⟩) dX5_learn_42
      · have hlt := lim_lt (N := zN z 0) rfl hc10 hi (by omega)
        refine V_iload_n X rfl dX5_learn_13 ?_
        refine V_iload_n X rfl dX5_learn_14 ?_
        refine V_callSp X (rest := _) (c_X5_has _ _ _ _ _) gX5_learn_X5_has rfl hds_X5_has (Nat.le_of_ble_eq_true rfl) (Nat.le_of_ble_eq_true rfl) rfl (Nat.le_of_ble_eq_true rfl) dX5_learn_15 ?_
        refine V_if_eq X (tgt := 36) (by decide) dX5_learn_18 (fun hc18 => ?_) (fun hc18 => ?_)
        · refine V_iinc X (lv' := [(3, _), (0, _), (1, _), (2, _)]) (v := nI (i + 1)) rfl (nI_1 _) (by decide) rfl dX5_learn_36 ?_
          refine V_goto X (tgt := 2) (by decide) dX5_learn_39 ?_
          refine V.lvs (lv' := [(0, _), (1, _), (2, _), (3, _)]) rfl ?_
          exact ih (zN z 0 - (i + 1)) (by omega) (i + 1) rfl (by omega) _ (by rw [lfF, if_neg (by rw [bI_eq0 hc18]; decide)]; exact hR) hF
        · refine V_aload_n X rfl dX5_learn_21 ?_
          refine V_get X (T := TX5) (N := 5) (v := .ref _) 0 (hR.2.1 (15, 0) (dm15)) rfl hinX5_learn_X5 (by decide) (by decide +kernel) (fun _ h9 => h9) (rfl) dX5_learn_22 ?_
          refine V_iload_n X rfl dX5_learn_25 ?_
          refine V_cnth X hR (rest := _) (13, 0) (dl13 (by decide)) (i) (i) (hR.main (by decide) hlt) gX5_learn_Jx4a65c_get_915e3 (Nat.le_of_ble_eq_true rfl) (Nat.le_of_ble_eq_true rfl) (Nat.le_of_ble_eq_true rfl) dX5_learn_26 ?_
          refine V_cast X (hR.2.1 (0, i) (dm0 hlt)) rfl (by decide +kernel) dX5_learn_29 ?_
          refine V_iload_n X rfl dX5_learn_32 ?_
          refine V_callV (kc' := 0) (ks' := 0) X (rest := _) (c_X3_learn _ _ _ al _ z hR i hlt g) (hR.2.1 (0, i) (dm0 hlt)) rfl gX5_learn_X3_learn rfl hdv_X3_learn (Nat.le_of_ble_eq_true rfl) (Nat.le_of_ble_eq_true rfl) rfl (Nat.le_of_ble_eq_true rfl) (by omega) (by omega) dX5_learn_33 (fun r f1 hq => ?_)
          obtain ⟨rfl, hR, hF1⟩ := hq
          have hF := hF.trans hF1
          refine V_iinc X (lv' := [(3, _), (0, _), (1, _), (2, _)]) (v := nI (i + 1)) rfl (nI_1 _) (by decide) rfl dX5_learn_36 ?_
          refine V_goto X (tgt := 2) (by decide) dX5_learn_39 ?_
          refine V.lvs (lv' := [(0, _), (1, _), (2, _), (3, _)]) rfl ?_
          exact ih (zN z 0 - (i + 1)) (by omega) (i + 1) rfl (by omega) _ (by rw [lfF, if_pos (bI_ne0 hc18)]; exact hR) hF
  refine V_iconst X (v := 0) (by decide) dX5_learn_0 ?_
  refine V_istore_n X (lv' := [(3, _), (0, _), (1, _), (2, _)]) (by decide) rfl dX5_learn_1 ?_
  refine V.lvs (lv' := [(0, _), (1, _), (2, _), (3, _)]) rfl ?_
  exact L _ 0 rfl (Nat.zero_le _) _ hR FrC.rf
