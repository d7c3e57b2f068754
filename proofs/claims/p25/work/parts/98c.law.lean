/-! ===== the law: ends, bar ===== -/
def mixF {α : Type} (n : Nat) (E g : Nat → α) : Nat → α := fun t => if t < n then E t else g t
theorem mixF_0 {α : Type} (E g : Nat → α) : mixF 0 E g = g := funext fun t => if_neg (Nat.not_lt_zero t)
theorem mixF_i {α : Type} (i : Nat) (E g : Nat → α) : mixF i E g i = g i := if_neg (Nat.lt_irrefl i)
theorem mixF_up {α : Type} {i : Nat} {E g : Nat → α} {x : α} (h : x = E i) : va_up (mixF i E g) i x = mixF (i + 1) E g := by
  subst h
  funext t
  unfold va_up mixF
  by_cases ht : t = i
  · subst ht; rw [if_pos rfl, if_pos (Nat.lt_succ_self t)]
  · rw [if_neg ht]
    by_cases h2 : t < i
    · rw [if_pos h2, if_pos (by omega)]
    · rw [if_neg h2, if_neg (by omega)]
theorem mixF_s {α : Type} {i : Nat} {E g : Nat → α} (h : E i = g i) : mixF i E g = mixF (i + 1) E g := by
  funext t
  unfold mixF
  by_cases ht : t = i
  · subst ht; rw [if_neg (Nat.lt_irrefl t), if_pos (Nat.lt_succ_self t), h]
  · by_cases h2 : t < i
    · rw [if_pos h2, if_pos (by omega)]
    · rw [if_neg h2, if_neg (by omega)]
/-- the parties' cells, as numbers -/
def QI (lq : Nat → Int64) (nt : Nat) (P S Q M : Nat → Nat) : Prop := ∀ t, t < nt → eOk (P t) (S t) (Q t) (M t) ∧ lq t = lN (eN (P t) (S t) (Q t) (M t))
def endQ (m : Nat) (b : Int32) (P S M : Nat → Nat) (lq : Nat → Int64) : Nat → Int64 := fun t => if M t = m + 1 then lN (eN (P t) (S t) (if nI (P t) &&& b = 0 then 1 else 0) 0) else lq t
theorem barI_mt : ∀ v, v ≤ 5 → nI (5 * 2 ^ ((if v < 5 then v + 1 else 5) - 1)) = mtI (nI v) := by decide +kernel
set_option maxHeartbeats 4000000 in
set_option maxRecDepth 100000 in
theorem c_L_ends (l : Launch) (G : GG) (f : Wo) (A : Nat → Nat) (lq : Nat → Int64) (la : Nat → Nat → Int32) (hA : LA G A lq la f) (nt m : Nat) (hnt : la 6 2 = nI nt) (hn60 : nt ≤ 60) (hm : m < 31) (P S Q M : Nat → Nat) (hQ : QI lq nt P S Q M) (b : Int32) : Ct l yL_ends wsL_ends 2 65 G [.ref (A 0), .ref (A 1), .ref (A 6), .int (nI m), .int b] f (fun r f' => r = none ∧ LA G A (mixF nt (endQ m b P S M lq) lq) (fu la 1 m ((la 1 m &&& 262143) ||| 524288)) f' ∧ FrA f f') 0 0 := by
  refine Ct.of (cc := cL_ends) (maxL := 6) (ret := none) (by decide) rfl (Nat.le_of_ble_eq_true rfl) (lv := [(0, _), (1, _), (2, _), (3, _), (4, _)]) rfl (by simp [Value.category]) ?_
  intro K X hL hG hr hnm
  subst hL; subst hG
  have hnt2 : fu la 1 m ((la 1 m &&& 262143) ||| 524288) 6 2 = nI nt := (fu_ne _ _ (Or.inl (by decide))).trans hnt
  have L : ∀ (n i : Nat), nt - i = n → i ≤ nt → ∀ f1 : Wo, LA (kG K) A (mixF i (endQ m b P S M lq) lq) (fu la 1 m ((la 1 m &&& 262143) ||| 524288)) f1 → FrA f f1 → V K f1 0 0 15 [(0, .ref (A 0)), (1, .ref (A 1)), (2, .ref (A 6)), (3, .int (nI m)), (4, .int b), (5, .int (nI i))] [] := by
    intro n
    induction n using Nat.strongRecOn with
    | ind n ih =>
      intro i hn hi f1 hA hF
      refine V_iload X rfl dL_ends_15 ?_
      refine V_aload_n X rfl dL_ends_17 ?_
      refine V_iconst X (v := 2) (by decide) dL_ends_18 ?_
      refine V_ald X hA 6 (2) 4 (by decide) rfl (by omega) (hnt2) dL_ends_19 ?_
      refine V_icmp_ge X (tgt := 76) (by decide) dL_ends_20 (fun hc20 => ?_) (fun hc20 => ?_)
      · have hiN := lim_ge (N := nt) rfl hc20 hi (by omega)
        exact V_vret X hr (⟨rfl, by rw [hiN] at hA; exact hA, hF⟩) dL_ends_76
      · have hlt := lim_lt (N := nt) rfl hc20 hi (by omega)
        obtain ⟨hok, hqi⟩ := hQ i hlt
        have hqi2 : mixF i (endQ m b P S M lq) lq i = lN (eN (P i) (S i) (Q i) (M i)) := (mixF_i _ _ _).trans hqi
        refine V_aload_n X rfl dL_ends_23 ?_
        refine V_iload X rfl dL_ends_24 ?_
        refine V_qld X hA (i) (by omega) (hqi2) dL_ends_26 ?_
        refine V_bipush X (v := 41) (by decide) dL_ends_27 ?_
        refine V_lshr X dL_ends_29 ?_
        refine V.topl (y := lN (M i)) (j_ma hok) ?_
        refine V_iload_n X rfl dL_ends_30 ?_
        refine V_i2l X dL_ends_31 ?_
        refine V.topl (y := lN m) (nI_l (by omega)) ?_
        refine V_lconst X (v := 1) (by decide) dL_ends_32 ?_
        refine V_ladd X dL_ends_33 ?_
        refine V.topl (y := lN (m + 1)) (lN_1 m) ?_
        refine V_lcmp X dL_ends_34 ?_
        refine V_if_ne X (tgt := 70) (by decide) dL_ends_35 (fun hc35 => ?_) (fun hc35 => ?_)
        · refine V_iinc X (lv' := [(5, _), (0, _), (1, _), (2, _), (3, _), (4, _)]) (v := nI (i + 1)) rfl (nI_1 _) (by decide) rfl dL_ends_70 ?_
          refine V_goto X (tgt := 15) (by decide) dL_ends_73 ?_
          refine V.lvs (lv' := [(0, _), (1, _), (2, _), (3, _), (4, _), (5, _)]) rfl ?_
          rw [mixF_s (show endQ m b P S M lq i = lq i from if_neg (fun q => hc35 ((lg_cmp_eq _ _).mpr (by rw [q]))))] at hA
          exact ih (nt - (i + 1)) (by omega) (i + 1) rfl (by omega) f1 hA hF
        · refine V_aload_n X rfl dL_ends_38 ?_
          refine V_iload X rfl dL_ends_39 ?_
          refine V_aload_n X rfl dL_ends_41 ?_
          refine V_iload X rfl dL_ends_42 ?_
          refine V_qld X hA (i) (by omega) (hqi2) dL_ends_44 ?_
          refine V_ldc2 X (v := 1099511627775) (by decide +kernel) dL_ends_45 ?_
          refine V_land X dL_ends_48 ?_
          refine V.topl (y := lN (eN (P i) (S i) 0 0)) (j_lo hok) ?_
          refine V_aload_n X rfl dL_ends_49 ?_
          refine V_iload X rfl dL_ends_50 ?_
          refine V_callSp X (rest := _) (c_L_players _ _ _ A _ _ hA i (by omega) (P i) (S i) (Q i) (M i) hok hqi2) gL_ends_L_players rfl hds_L_players (Nat.le_of_ble_eq_true rfl) (Nat.le_of_ble_eq_true rfl) rfl (Nat.le_of_ble_eq_true rfl) dL_ends_52 ?_
          refine V_iload X rfl dL_ends_55 ?_
          refine V_iand X dL_ends_57 ?_
          refine V_if_ne X (tgt := 67) (by decide) dL_ends_58 (fun hc58 => ?_) (fun hc58 => ?_)
          · refine V_lconst X (v := 0) (by decide) dL_ends_67 ?_
            refine V_lor X dL_ends_68 ?_
            refine V.topl (y := lN (eN (P i) (S i) 0 0)) (j_or0) ?_
            refine V_qst X hA (i) (by omega) dL_ends_69 (fun f hA hFA => ?_)
            refine V_iinc X (lv' := [(5, _), (0, _), (1, _), (2, _), (3, _), (4, _)]) (v := nI (i + 1)) rfl (nI_1 _) (by decide) rfl dL_ends_70 ?_
            refine V_goto X (tgt := 15) (by decide) dL_ends_73 ?_
            refine V.lvs (lv' := [(0, _), (1, _), (2, _), (3, _), (4, _), (5, _)]) rfl ?_
            have hM9 : M i = m + 1 := (pk_lEQ (by have := hok.2.2.2; omega) (by omega)).mp ((lg_cmp_eq _ _).mp hc35)
            rw [mixF_up (show _ = endQ m b P S M lq i from by show _ = (if M i = m + 1 then _ else _); rw [if_pos hM9, if_neg hc58])] at hA
            exact ih (nt - (i + 1)) (by omega) (i + 1) rfl (by omega) f hA (hF.trans hFA)
          · refine V_ldc2 X (v := 1099511627776) (by decide +kernel) dL_ends_61 ?_
            refine V_goto X (tgt := 68) (by decide) dL_ends_64 ?_
            refine V_lor X dL_ends_68 ?_
            refine V.topl (y := lN (eN (P i) (S i) 1 0)) (j_or40 hok.1 hok.2.1) ?_
            refine V_qst X hA (i) (by omega) dL_ends_69 (fun f hA hFA => ?_)
            refine V_iinc X (lv' := [(5, _), (0, _), (1, _), (2, _), (3, _), (4, _)]) (v := nI (i + 1)) rfl (nI_1 _) (by decide) rfl dL_ends_70 ?_
            refine V_goto X (tgt := 15) (by decide) dL_ends_73 ?_
            refine V.lvs (lv' := [(0, _), (1, _), (2, _), (3, _), (4, _), (5, _)]) rfl ?_
            have hM9 : M i = m + 1 := (pk_lEQ (by have := hok.2.2.2; omega) (by omega)).mp ((lg_cmp_eq _ _).mp hc35)
            rw [mixF_up (show _ = endQ m b P S M lq i from by show _ = (if M i = m + 1 then _ else _); rw [if_pos hM9, if_pos hc58])] at hA
            exact ih (nt - (i + 1)) (by omega) (i + 1) rfl (by omega) f hA (hF.trans hFA)
  refine V_aload_n X rfl dL_ends_0 ?_
  refine V_iload_n X rfl dL_ends_1 ?_
  refine V_aload_n X rfl dL_ends_2 ?_
  refine V_iload_n X rfl dL_ends_3 ?_
  refine V_ald X hA 1 (m) 31 (by decide) rfl (by omega) (rfl) dL_ends_4 ?_
  refine V_ldc X (v := 262143) (by decide +kernel) dL_ends_5 ?_
  refine V_iand X dL_ends_7 ?_
  refine V_ldc X (v := 524288) (by decide +kernel) dL_ends_8 ?_
  refine V_ior X dL_ends_10 ?_
  refine V_ast X hA 1 (m) 31 (by decide) rfl (by omega) dL_ends_11 (fun f hA hFA => ?_)
  refine V_iconst X (v := 0) (by decide) dL_ends_12 ?_
  refine V_istore X (lv' := [(5, _), (0, _), (1, _), (2, _), (3, _), (4, _)]) (by decide) rfl dL_ends_13 ?_
  refine V.lvs (lv' := [(0, _), (1, _), (2, _), (3, _), (4, _), (5, _)]) rfl ?_
  exact L _ 0 rfl (Nat.zero_le _) f (by rw [mixF_0]; exact hA) hFA
set_option maxHeartbeats 4000000 in
set_option maxRecDepth 100000 in
theorem c_L_bar (l : Launch) (G : GG) (f : Wo) (A : Nat → Nat) (lq : Nat → Int64) (la : Nat → Nat → Int32) (hA : LA G A lq la f) (o k v : Nat) (ck : Int32) (hck : la 6 0 = ck) (hk : k < 18) (hv : v ≤ 5) : Ct l yL_bar wsL_bar 1 44 G [.ref o, .ref (A 3), .ref (A 6), .int (nI k), .int (nI v)] f (fun r f' => r = some (.int (mtI (nI v))) ∧ LA G A lq (fu la 3 k (ck + mtI (nI v))) f' ∧ FrA f f') 0 0 := by
  refine Ct.of (cc := cL_bar) (maxL := 7) (ret := (some .int)) (by decide) rfl (Nat.le_of_ble_eq_true rfl) (lv := [(0, _), (1, _), (2, _), (3, _), (4, _)]) rfl (by simp [Value.category]) ?_
  intro K X hL hG hr hnm
  subst hL; subst hG
  have hlim : (if v < 5 then v + 1 else 5) ≤ 5 ∧ 1 ≤ (if v < 5 then v + 1 else 5) := by split <;> omega
  have L : ∀ (n i : Nat), ((if v < 5 then v + 1 else 5) - 1) - i = n → i ≤ ((if v < 5 then v + 1 else 5) - 1) → V K f 0 0 6 [(0, .ref o), (1, .ref (A 3)), (2, .ref (A 6)), (3, .int (nI k)), (4, .int (nI v)), (5, .int (nI (5 * 2 ^ i))), (6, .int (nI (i + 1)))] [] := by
    intro n
    induction n using Nat.strongRecOn with
    | ind n ih =>
      intro i hn hi
      refine V_iload X rfl dL_bar_6 ?_
      refine V.join (P := fun w => w = nI (if v < 5 then v + 1 else 5)) 22 (fun w22 hw22 => ?_) (fun hj22 => ?_)
      · subst hw22
        refine V_icmp_ge X (tgt := 37) (by decide) dL_bar_22 (fun hc22 => ?_) (fun hc22 => ?_)
        · have hiN : i = (if v < 5 then v + 1 else 5) - 1 := by
            have := (nI_leI (by omega) (by omega)).mp hc22
            omega
          refine V_aload_n X rfl dL_bar_37 ?_
          refine V_iload_n X rfl dL_bar_38 ?_
          refine V_aload_n X rfl dL_bar_39 ?_
          refine V_iconst X (v := 0) (by decide) dL_bar_40 ?_
          refine V_ald X hA 6 (0) 4 (by decide) rfl (by omega) (hck) dL_bar_41 ?_
          refine V_iload X rfl dL_bar_42 ?_
          refine V_iadd X dL_bar_44 ?_
          refine V_ast X hA 3 (k) 18 (by decide) rfl (by omega) dL_bar_45 (fun f hA hFA => ?_)
          rw [hiN, barI_mt v hv] at hA
          refine V_iload X rfl dL_bar_46 ?_
          exact V_iret X hr (⟨by rw [hiN, barI_mt v hv], hA, hFA⟩) dL_bar_48
        · have hlt : i < (if v < 5 then v + 1 else 5) - 1 := by
            have := mt (nI_leI (a := (if v < 5 then v + 1 else 5)) (b := i + 1) (by omega) (by omega)).mpr hc22
            omega
          refine V_iload X rfl dL_bar_25 ?_
          refine V_iconst X (v := 2) (by decide) dL_bar_27 ?_
          refine V_imul X dL_bar_28 ?_
          refine V.top (y := nI (5 * 2 ^ (i + 1))) (by rw [show (2 : Int32) = nI 2 from rfl, pk_mul]; congr 1; rw [Nat.pow_succ]; omega) ?_
          refine V_istore X (lv' := [(5, _), (0, _), (1, _), (2, _), (3, _), (4, _), (6, _)]) (by decide) rfl dL_bar_29 ?_
          refine V_iinc X (lv' := [(6, _), (5, _), (0, _), (1, _), (2, _), (3, _), (4, _)]) (v := nI (i + 1 + 1)) rfl (nI_1 _) (by decide) rfl dL_bar_31 ?_
          refine V_goto X (tgt := 6) (by decide) dL_bar_34 ?_
          refine V.lvs (lv' := [(0, _), (1, _), (2, _), (3, _), (4, _), (5, _), (6, _)]) rfl ?_
          exact ih ((if v < 5 then v + 1 else 5) - 1 - (i + 1)) (by omega) (i + 1) rfl (by omega)
      · refine V_iload X rfl dL_bar_8 ?_
        refine V_iconst X (v := 5) (by decide) dL_bar_10 ?_
        refine V_icmp_ge X (tgt := 21) (by decide) dL_bar_11 (fun hc11 => ?_) (fun hc11 => ?_)
        · refine V_iconst X (v := 5) (by decide) dL_bar_21 ?_
          exact hj22 _ (by rw [if_neg (show ¬ v < 5 from fun q => absurd ((nI_leI (a := 5) (b := v) (by decide) (by omega)).mp hc11) (by omega))]; rfl)
        · refine V_iload X rfl dL_bar_14 ?_
          refine V_iconst X (v := 1) (by decide) dL_bar_16 ?_
          refine V_iadd X dL_bar_17 ?_
          refine V_goto X (tgt := 22) (by decide) dL_bar_18 ?_
          exact hj22 _ (by rw [if_pos (show v < 5 from Nat.lt_of_not_le fun q => hc11 (nI_le q (by omega))), nI_1])
  refine V_iconst X (v := 5) (by decide) dL_bar_0 ?_
  refine V_istore X (lv' := [(5, _), (0, _), (1, _), (2, _), (3, _), (4, _)]) (by decide) rfl dL_bar_1 ?_
  refine V_iconst X (v := 1) (by decide) dL_bar_3 ?_
  refine V_istore X (lv' := [(6, _), (5, _), (0, _), (1, _), (2, _), (3, _), (4, _)]) (by decide) rfl dL_bar_4 ?_
  refine V.lvs (lv' := [(0, _), (1, _), (2, _), (3, _), (4, _), (5, _), (6, _)]) rfl ?_
  exact L _ 0 rfl (Nat.zero_le _)
