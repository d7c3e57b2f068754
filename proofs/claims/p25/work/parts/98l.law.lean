/-! ===== the law: free, queueing ===== -/
theorem JQ_or1 {Y p : Nat} (hp : p < 18) : (JQ (nI (Y ||| 2 ^ p)) 18).length ≤ (JQ (nI Y) 18).length + 1 := by
  have h : ∀ n, n ≤ 18 → cntN (fun k => hsI (nI (Y ||| 2 ^ p)) (nI k)) n ≤ cntN (fun k => hsI (nI Y) (nI k)) n + (if p < n then 1 else 0) := by
    intro n
    induction n with
    | zero => intro _; exact Nat.zero_le _
    | succ n ih =>
      intro hn
      have ih := ih (by omega)
      show cntN _ n + (if hsI (nI (Y ||| 2 ^ p)) (nI n) = true then 1 else 0) ≤ (cntN _ n + (if hsI (nI Y) (nI n) = true then 1 else 0)) + _
      rw [hsI_tb (by omega), hsI_tb (by omega), Nat.testBit_or, Nat.testBit_two_pow]
      by_cases he : p = n
      · subst he
        rw [if_neg (Nat.lt_irrefl p)] at ih
        rw [if_pos (Nat.lt_succ_self p)]
        split <;> split <;> omega
      · rw [decide_eq_false he, Bool.or_false]
        by_cases h2 : p < n
        · rw [if_pos h2] at ih
          rw [if_pos (show p < n + 1 by omega)]
          split <;> omega
        · rw [if_neg h2] at ih
          rw [if_neg (show ¬ p < n + 1 by omega)]
          split <;> omega
  rw [q_cnt, q_cnt]
  exact Nat.le_trans (h 18 (Nat.le_refl _)) (by split <;> omega)
theorem bw_or1 {np Y p : Nat} (h : q_bw np (nI Y)) (hp : p < np) (hX : Y < 262144) (h18 : np ≤ 18) : q_bw np (nI (Y ||| 2 ^ p)) ∧ Y ||| 2 ^ p < 262144 := by
  refine ⟨fun k h1 h2 => ?_, ?_⟩
  · have := h k h1 h2
    rw [gb_nI _ h2] at this ⊢
    rw [Nat.testBit_or, this, Nat.testBit_two_pow, decide_eq_false (by omega)]
    rfl
  · have : 2 ^ p < 2 ^ 18 := Nat.pow_lt_pow_right (by decide) (by omega)
    exact Nat.or_lt_two_pow (n := 18) hX this
set_option maxHeartbeats 4000000 in
set_option maxRecDepth 100000 in
theorem c_L_free (l : Launch) (G : GG) (f : Wo) (al : Tg → Nat) (fi : Nat → Nat → Int32) (z : CZ) (hR : RC G al fi z f) (A : Nat → Nat) (lq : Nat → Int64) (la : Nat → Nat → Int32) (hA : LA G A lq la f) (np c : Nat) (hnp : zN z 0 = np) (h1 : 1 ≤ np) (h18 : np ≤ 18) (hc0 : la 6 0 = nI c) (hc1 : la 6 1 = nI np) (x m : Nat) (hx : x < 1073741824) (hm : m ≤ 18) : Ct l yL_free wsL_free 11 202 G [.ref (al (15, 0)), .ref (A 3), .ref (A 6), .int (nI x), .int (nI m)] f (fun r f' => (∃ Y, Y < 262144 ∧ r = some (.int (nI Y)) ∧ q_bw np (nI Y) ∧ (JQ (nI Y) 18).length ≤ m) ∧ f' = f) 0 0 := by
  refine Ct.of (cc := cL_free) (maxL := 8) (ret := (some .int)) (by decide) rfl (Nat.le_of_ble_eq_true rfl) (lv := [(0, _), (1, _), (2, _), (3, _), (4, _)]) rfl (by simp [Value.category]) ?_
  intro K X hL hG hr hnm
  subst hL; subst hG
  have L : ∀ (n i : Nat), np - i = n → i ≤ np → ∀ Y : Nat, Y < 262144 → q_bw np (nI Y) → (JQ (nI Y) 18).length ≤ m → V K f 0 0 6 [(0, .ref (al (15, 0))), (1, .ref (A 3)), (2, .ref (A 6)), (3, .int (nI x)), (4, .int (nI m)), (5, .int (nI Y)), (6, .int (nI i))] [] := by
    intro n
    induction n using Nat.strongRecOn with
    | ind n ih =>
      intro i hn hi Y hX hb hl
      refine V_iload X rfl dL_free_6 ?_
      refine V_aload_n X rfl dL_free_8 ?_
      refine V_iconst X (v := 1) (by decide) dL_free_9 ?_
      refine V_ald X hA 6 (1) 4 (by decide) rfl (by omega) (hc1) dL_free_10 ?_
      refine V_icmp_ge X (tgt := 72) (by decide) dL_free_11 (fun hc11 => ?_) (fun hc11 => ?_)
      · refine V_iload X rfl dL_free_72 ?_
        exact V_iret X hr (⟨⟨Y, hX, rfl, hb, hl⟩, rfl⟩) dL_free_74
      · have hlt := lim_lt (N := np) rfl hc11 hi (by omega)
        have hml := Nat.mod_lt (x + i) h1
        refine V_iload_n X rfl dL_free_14 ?_
        refine V_iload X rfl dL_free_15 ?_
        refine V_iadd X dL_free_17 ?_
        refine V.top (y := nI (x + i)) (nI_add _ _) ?_
        refine V_aload_n X rfl dL_free_18 ?_
        refine V_iconst X (v := 1) (by decide) dL_free_19 ?_
        refine V_ald X hA 6 (1) 4 (by decide) rfl (by omega) (hc1) dL_free_20 ?_
        refine V_irem X (nI_ne0 h1 (by omega)) dL_free_21 ?_
        refine V.top (y := nI ((x + i) % np)) (pk_rem (by omega) h1 (by omega)) ?_
        refine V_istore X (lv' := [(7, _), (0, _), (1, _), (2, _), (3, _), (4, _), (5, _), (6, _)]) (by decide) rfl dL_free_22 ?_
        refine V_iload X rfl dL_free_24 ?_
        refine V_iload X rfl dL_free_26 ?_
        refine V_callSp X (rest := _) (c_L_size _ _ _ Y hX) gL_free_L_size rfl hds_L_size (Nat.le_of_ble_eq_true rfl) (Nat.le_of_ble_eq_true rfl) rfl (Nat.le_of_ble_eq_true rfl) dL_free_28 ?_
        refine V_iload X rfl dL_free_31 ?_
        refine V_icmp_ge X (tgt := 62) (by decide) dL_free_33 (fun hc33 => ?_) (fun hc33 => ?_)
        · refine V_iconst X (v := 0) (by decide) dL_free_62 ?_
          refine V_ior X dL_free_63 ?_
          refine V.top (y := nI Y) (or32_0 _) ?_
          refine V_istore X (lv' := [(5, _), (7, _), (0, _), (1, _), (2, _), (3, _), (4, _), (6, _)]) (by decide) rfl dL_free_64 ?_
          refine V_iinc X (lv' := [(6, _), (5, _), (7, _), (0, _), (1, _), (2, _), (3, _), (4, _)]) (v := nI (i + 1)) rfl (nI_1 _) (by decide) rfl dL_free_66 ?_
          refine V_goto X (tgt := 6) (by decide) dL_free_69 ?_
          refine V.lvs (lv' := [(0, _), (1, _), (2, _), (3, _), (4, _), (5, _), (6, _)]) rfl ?_
          exact ih (np - (i + 1)) (by omega) (i + 1) rfl (by omega) Y hX hb hl
        · refine V_aload_n X rfl dL_free_36 ?_
          refine V_iload X rfl dL_free_37 ?_
          refine V_callVp X (rest := _) (c_X5_state_t _ _ _ al fi z hR ((x + i) % np) (by omega)) (hR.2.1 (15, 0) dm15) rfl gL_free_X5_state rfl hdv_X5_state (Nat.le_of_ble_eq_true rfl) (Nat.le_of_ble_eq_true rfl) rfl (Nat.le_of_ble_eq_true rfl) dL_free_39 ?_
          refine V_if_ne X (tgt := 62) (by decide) dL_free_42 (fun hc42 => ?_) (fun hc42 => ?_)
          · refine V_iconst X (v := 0) (by decide) dL_free_62 ?_
            refine V_ior X dL_free_63 ?_
            refine V.top (y := nI Y) (or32_0 _) ?_
            refine V_istore X (lv' := [(5, _), (7, _), (0, _), (1, _), (2, _), (3, _), (4, _), (6, _)]) (by decide) rfl dL_free_64 ?_
            refine V_iinc X (lv' := [(6, _), (5, _), (7, _), (0, _), (1, _), (2, _), (3, _), (4, _)]) (v := nI (i + 1)) rfl (nI_1 _) (by decide) rfl dL_free_66 ?_
            refine V_goto X (tgt := 6) (by decide) dL_free_69 ?_
            refine V.lvs (lv' := [(0, _), (1, _), (2, _), (3, _), (4, _), (5, _), (6, _)]) rfl ?_
            exact ih (np - (i + 1)) (by omega) (i + 1) rfl (by omega) Y hX hb hl
          · refine V_aload_n X rfl dL_free_45 ?_
            refine V_iload X rfl dL_free_46 ?_
            refine V_ald X hA 3 (((x + i) % np)) 18 (by decide) rfl (by omega) (rfl) dL_free_48 ?_
            refine V_aload_n X rfl dL_free_49 ?_
            refine V_iconst X (v := 0) (by decide) dL_free_50 ?_
            refine V_ald X hA 6 (0) 4 (by decide) rfl (by omega) (hc0) dL_free_51 ?_
            refine V_icmp_gt X (tgt := 62) (by decide) dL_free_52 (fun hc52 => ?_) (fun hc52 => ?_)
            · refine V_iconst X (v := 0) (by decide) dL_free_62 ?_
              refine V_ior X dL_free_63 ?_
              refine V.top (y := nI Y) (or32_0 _) ?_
              refine V_istore X (lv' := [(5, _), (7, _), (0, _), (1, _), (2, _), (3, _), (4, _), (6, _)]) (by decide) rfl dL_free_64 ?_
              refine V_iinc X (lv' := [(6, _), (5, _), (7, _), (0, _), (1, _), (2, _), (3, _), (4, _)]) (v := nI (i + 1)) rfl (nI_1 _) (by decide) rfl dL_free_66 ?_
              refine V_goto X (tgt := 6) (by decide) dL_free_69 ?_
              refine V.lvs (lv' := [(0, _), (1, _), (2, _), (3, _), (4, _), (5, _), (6, _)]) rfl ?_
              exact ih (np - (i + 1)) (by omega) (i + 1) rfl (by omega) Y hX hb hl
            · refine V_iconst X (v := 1) (by decide) dL_free_55 ?_
              refine V_iload X rfl dL_free_56 ?_
              refine V_ishl X dL_free_58 ?_
              refine V.top (y := nI (2 ^ ((x + i) % np))) (nI_shl (by omega)) ?_
              refine V_goto X (tgt := 63) (by decide) dL_free_59 ?_
              refine V_ior X dL_free_63 ?_
              refine V.top (y := nI (Y ||| 2 ^ ((x + i) % np))) (nI_or _ _) ?_
              refine V_istore X (lv' := [(5, _), (7, _), (0, _), (1, _), (2, _), (3, _), (4, _), (6, _)]) (by decide) rfl dL_free_64 ?_
              refine V_iinc X (lv' := [(6, _), (5, _), (7, _), (0, _), (1, _), (2, _), (3, _), (4, _)]) (v := nI (i + 1)) rfl (nI_1 _) (by decide) rfl dL_free_66 ?_
              refine V_goto X (tgt := 6) (by decide) dL_free_69 ?_
              refine V.lvs (lv' := [(0, _), (1, _), (2, _), (3, _), (4, _), (5, _), (6, _)]) rfl ?_
              have hb9 := bw_or1 hb (Nat.mod_lt (x + i) h1) hX h18
              have hj9 := JQ_or1 (Y := Y) (p := (x + i) % np) (by have := Nat.mod_lt (x + i) h1; omega)
              have hq9 := q_len18 (nI Y)
              have hl9 : (JQ (nI Y) 18).length < m := Nat.lt_of_not_le fun q => hc33 (nI_le q (by omega))
              exact ih (np - (i + 1)) (by omega) (i + 1) rfl (by omega) _ hb9.2 hb9.1 (by omega)
  refine V_iconst X (v := 0) (by decide) dL_free_0 ?_
  refine V_istore X (lv' := [(5, _), (0, _), (1, _), (2, _), (3, _), (4, _)]) (by decide) rfl dL_free_1 ?_
  refine V_iconst X (v := 0) (by decide) dL_free_3 ?_
  refine V_istore X (lv' := [(6, _), (5, _), (0, _), (1, _), (2, _), (3, _), (4, _)]) (by decide) rfl dL_free_4 ?_
  refine V.lvs (lv' := [(0, _), (1, _), (2, _), (3, _), (4, _), (5, _), (6, _)]) rfl ?_
  exact L _ 0 rfl (Nat.zero_le _) 0 (by decide) (fun k _ _ => gb_0 k) (by show (JQ 0 18).length ≤ m; rw [show JQ 0 18 = [] from by decide]; exact Nat.zero_le _)
theorem mqB_s (fi : Nat → Nat → Int32) (a : Nat → Option Nat) (s : Int32) (i : Nat) : mqB fi a s (i + 1) = (mqB fi a s i && mqT fi a s i) := by
  unfold mqB
  rw [List.range_succ, List.all_append, List.all_cons, List.all_nil, Bool.and_true]
set_option maxHeartbeats 4000000 in
set_option maxRecDepth 100000 in
theorem c_L_queueing (l : Launch) (hl : l.stackTraces = false) (G : GG) (f : Wo) (al : Tg → Nat) (fi : Nat → Nat → Int32) (z : CZ) (hR : RC G al fi z f) (A : Nat → Nat) (lq : Nat → Int64) (la : Nat → Nat → Int32) (hA : LA G A lq la f) (c : Nat) (sc : Nat → Int32) (ar : Nat → Nat → Int32) (hS : SM c fi z sc ar) (hB : BR ar) (P S Q M : Nat → Nat) (hI : IV c (zN z 0) (zN z 1) (zN z 2) ar lq la P S Q M) (Y : Nat) (hX : Y < 262144) (hX0 : Y ≠ 0) (hb : q_bw (zN z 0) (nI Y)) (hl3 : (JQ (nI Y) 18).length ≤ 3) (hnt : zN z 1 < 60) : Ct l yL_queueing wsL_queueing 15 296 G [.ref (al (15, 0)), .int (nI Y), .ref (A 0), .ref (A 3), .ref (A 6)] f (fun r f' => r = some (.int 1) ∧ ∃ nt', nt' ≤ zN z 1 + 1 ∧ LW G A (al (15, 0)) f' c (zN z 0) nt' (zN z 2)) 4 178 := by
  refine Ct.of (cc := cL_queueing) (maxL := 7) (ret := (some .boolean)) (by decide) rfl (Nat.le_of_ble_eq_true rfl) (lv := [(0, _), (1, _), (2, _), (3, _), (4, _)]) rfl (by simp [Value.category]) ?_
  intro K X hL hG hr hnm
  subst hL; subst hG
  have h18 := hI.np
  have h2k := hI.cc
  have g1 : ¬ nI Y = 0 := nI_ne0 (Nat.pos_of_ne_zero hX0) (by omega)
  have g4 := hb
  have g5 : JQ (nI Y) (zN z 0) = JQ (nI Y) 18 := (q_bw_J hb h18 (by decide)).symm
  have g6 : (JQ (nI Y) (zN z 0)).length ≤ 3 := by rw [g5]; exact hl3
  have g2 : ¬ 3 < bcI (nI Y) := by rw [e_cnt (x := Y) (by omega), q_szI]; exact Int32.not_lt.mpr (nI_le (b := 3) hl3 (by decide))
  have g3 : nI Y >>> (nI (zN z 0) &&& 31) = 0 := (e_rng h18).mpr (by obtain ⟨x, x1, x2⟩ := bw_nat hb (by omega); exact ⟨x, x1, x2⟩)
  have hl1 : 1 ≤ (JQ (nI Y) 18).length := Nat.pos_of_ne_zero fun q => hX0 (by rw [← pcF_J] at q; cases Nat.eq_zero_or_pos Y with | inl h => exact h | inr h => have := pcF_k 18 Y hX (by omega); omega)
  have T9 : V K f 4 178 75 [(0, .ref (al (15, 0))), (1, .int (nI Y)), (2, .ref (A 0)), (3, .ref (A 3)), (4, .ref (A 6)), (5, .int (bI (mqB fi (zA z) (nI Y) (zN z 0))))] [] := by
    cases hmq : mqB fi (zA z) (nI Y) (zN z 0) with
    | false =>
      refine V_aload X rfl dL_queueing_75 ?_
      refine V_iconst X (v := 2) (by decide) dL_queueing_77 ?_
      refine V_ald X hA 6 (2) 4 (by decide) rfl (by omega) (hI.c2) dL_queueing_78 ?_
      refine V_bipush X (v := 60) (by decide) dL_queueing_79 ?_
      refine V_icmp_ne X (tgt := 86) (by decide) dL_queueing_81 (fun hc81 => ?_) (fun hc81 => absurd hc81 (fun q => absurd ((nI_eq (b := 60) (by omega) (by decide)).mp q) (by omega)))
      refine V_aload_n X rfl dL_queueing_86 ?_
      refine V_iconst X (v := 0) (by decide) dL_queueing_87 ?_
      refine V_iload_n X rfl dL_queueing_88 ?_
      refine V_iconst X (v := 0) (by decide) dL_queueing_89 ?_
      refine V_callSH (kc' := 0) (ks' := 0) X (rest := _) (c_L_asks_q_s _ hl _ _ al fi z hR (nI Y) 0 g1 g2 g3 (Or.inr hmq)) gL_queueing_L_asks rfl hds_L_asks (Nat.le_of_ble_eq_true rfl) (Nat.le_of_ble_eq_true rfl) rfl (Nat.le_of_ble_eq_true rfl) (by omega) (by omega) dL_queueing_90 (fun r9 f9 h9 => ?_)
      obtain ⟨rfl, rfl⟩ := h9
      refine V_istore X (lv' := [(6, _), (0, _), (1, _), (2, _), (3, _), (4, _), (5, _)]) (by decide) rfl dL_queueing_93 ?_
      refine V_iload X rfl dL_queueing_95 ?_
      refine V.top (y := 0) (rfl) ?_
      refine V_if_eq X (tgt := 129) (by decide) dL_queueing_97 (fun hc97 => ?_) (fun hc97 => absurd hc97 (by decide))
      refine V_iload X rfl dL_queueing_129 ?_
      refine V_iload X rfl dL_queueing_131 ?_
      refine V.top (y := 0) (rfl) ?_
      refine V_if_eq X (tgt := 145) (by decide) dL_queueing_133 (fun hc133 => ?_) (fun hc133 => absurd hc133 (by decide))
      refine V_bipush X (v := (-8)) (by decide) dL_queueing_145 ?_
      refine V_icmp_ne X (tgt := 154) (by decide) dL_queueing_147 (fun hc147 => absurd hc147 (fun q => q rfl)) (fun hc147 => ?_)
      refine V_iconst X (v := 1) (by decide) dL_queueing_150 ?_
      refine V_goto X (tgt := 155) (by decide) dL_queueing_151 ?_
      exact V_zret X hr (by decide) (⟨rfl, zN z 1, Nat.le_succ _, al, fi, z, sc, ar, lq, la, P, S, Q, M, rfl, hR, hA, hS, hB, rfl, rfl, rfl, hI⟩) dL_queueing_155
    | true =>
      have hid : ∀ k, k < zN z 0 → gb (nI Y) k = true → stC fi (zA z k) = 0 := fun k hk hb => by
        have := e_all hmq hk
        unfold mqT at this
        rw [hsI_gb _ (by omega), hb] at this
        exact of_decide_eq_true (Bool.and_eq_true_iff.mp this).1
      refine V_aload X rfl dL_queueing_75 ?_
      refine V_iconst X (v := 2) (by decide) dL_queueing_77 ?_
      refine V_ald X hA 6 (2) 4 (by decide) rfl (by omega) (hI.c2) dL_queueing_78 ?_
      refine V_bipush X (v := 60) (by decide) dL_queueing_79 ?_
      refine V_icmp_ne X (tgt := 86) (by decide) dL_queueing_81 (fun hc81 => ?_) (fun hc81 => absurd hc81 (fun q => absurd ((nI_eq (b := 60) (by omega) (by decide)).mp q) (by omega)))
      refine V_aload_n X rfl dL_queueing_86 ?_
      refine V_iconst X (v := 0) (by decide) dL_queueing_87 ?_
      refine V_iload_n X rfl dL_queueing_88 ?_
      refine V_iconst X (v := 0) (by decide) dL_queueing_89 ?_
      refine V_callSH (kc' := 0) (ks' := 0) X (rest := _) (c_L_asks_q _ _ _ al fi z hR (nI Y) 0 g1 g2 g3 (by omega) hmq hS.2.2.2.2.2.2.2.1 g6) gL_queueing_L_asks rfl hds_L_asks (Nat.le_of_ble_eq_true rfl) (Nat.le_of_ble_eq_true rfl) rfl (Nat.le_of_ble_eq_true rfl) (by omega) (by omega) dL_queueing_90 (fun r9 f9 h9 => ?_)
      obtain ⟨al2, cap, cm, ea, rfl, ec, hR9, hF9⟩ := h9
      have hA := hA.fr hF9
      refine V_istore X (lv' := [(6, _), (0, _), (1, _), (2, _), (3, _), (4, _), (5, _)]) (by decide) rfl dL_queueing_93 ?_
      refine V_iload X rfl dL_queueing_95 ?_
      refine V.top (y := 1) (rfl) ?_
      refine V_if_eq X (tgt := 129) (by decide) dL_queueing_97 (fun hc97 => absurd hc97 (by decide)) (fun hc97 => ?_)
      refine V_aload_n X rfl dL_queueing_100 ?_
      refine V_aload X rfl dL_queueing_101 ?_
      refine V_iconst X (v := 2) (by decide) dL_queueing_103 ?_
      refine V_ald X hA 6 (2) 4 (by decide) rfl (by omega) (hI.c2) dL_queueing_104 ?_
      refine V_iload_n X rfl dL_queueing_105 ?_
      refine V_i2l X dL_queueing_106 ?_
      refine V.topl (y := lN Y) (nI_l (by omega)) ?_
      refine V_aload X rfl dL_queueing_107 ?_
      refine V_iconst X (v := 0) (by decide) dL_queueing_109 ?_
      refine V_ald X hA 6 (0) 4 (by decide) rfl (by omega) (hI.c0) dL_queueing_110 ?_
      refine V_i2l X dL_queueing_111 ?_
      refine V.topl (y := lN c) (nI_l (by omega)) ?_
      refine V_bipush X (v := 18) (by decide) dL_queueing_112 ?_
      refine V_lshl X dL_queueing_114 ?_
      refine V_lor X dL_queueing_115 ?_
      refine V.topl (y := lN (eN Y c 0 0)) (j_new hX (by omega)) ?_
      refine V_ldc2 X (v := 1099511627776) (by decide +kernel) dL_queueing_116 ?_
      refine V_lor X dL_queueing_119 ?_
      refine V.topl (y := lN (eN Y c 1 0)) (j_or40 hX (by omega)) ?_
      refine V_qst X hA ((zN z 1)) (by omega) dL_queueing_120 (fun f hA hFA => ?_)
      have hF2 := hFA
      refine V_aload X rfl dL_queueing_121 ?_
      refine V_iconst X (v := 2) (by decide) dL_queueing_123 ?_
      refine V_dup2 X rfl rfl dL_queueing_124 ?_
      refine V_ald X hA 6 (2) 4 (by decide) rfl (by omega) (hI.c2) dL_queueing_125 ?_
      refine V_iconst X (v := 1) (by decide) dL_queueing_126 ?_
      refine V_iadd X dL_queueing_127 ?_
      refine V.top (y := nI (zN z 1 + 1)) (nI_1 _) ?_
      refine V_ast X hA 6 (2) 4 (by decide) rfl (by omega) dL_queueing_128 (fun f hA hFA => ?_)
      refine V_iload X rfl dL_queueing_129 ?_
      refine V_iload X rfl dL_queueing_131 ?_
      refine V.top (y := 1) (rfl) ?_
      refine V_if_eq X (tgt := 145) (by decide) dL_queueing_133 (fun hc133 => absurd hc133 (by decide)) (fun hc133 => ?_)
      refine V_aload X rfl dL_queueing_136 ?_
      refine V_iconst X (v := 2) (by decide) dL_queueing_138 ?_
      refine V_ald X hA 6 (2) 4 (by decide) rfl (by omega) (fu_self _ _ _ _) dL_queueing_139 ?_
      refine V_iconst X (v := 1) (by decide) dL_queueing_140 ?_
      refine V_isub X dL_queueing_141 ?_
      refine V.top (y := nI (zN z 1)) (nI_pred _) ?_
      refine V_goto X (tgt := 147) (by decide) dL_queueing_142 ?_
      refine V_icmp_ne X (tgt := 154) (by decide) dL_queueing_147 (fun hc147 => absurd hc147 (fun q => q rfl)) (fun hc147 => ?_)
      refine V_iconst X (v := 1) (by decide) dL_queueing_150 ?_
      refine V_goto X (tgt := 155) (by decide) dL_queueing_151 ?_
      exact V_zret X hr (by decide) (⟨rfl, zN z 1 + 1, Nat.le_refl _, al2, _, _, (va_up sc 1 (nI (zN z 1 + 1))), (fun j => if j = 5 then becF (zN z 0) (nI Y) 1 (ar 5) else if j = 7 then va_up (ar 7) (zN z 1) (nI Y) else if j = 8 then va_up (ar 8) (zN z 1) (nI c) else if j = 9 then va_up (ar 9) (zN z 1) 1 else if j = 10 then va_up (ar 10) (zN z 1) (-1) else ar j), _, _, _, _, _, _, ea, (hR9.keepA hF2).keepA hFA, hA, hS.que (by omega) ec g4 (by rw [g5]; exact hl1) (by rw [g5]; exact hl3) hid (by rw [va_up_self]) (fun j hj h0 => va_up_ne _ _ h0) (fun j j5 j7 j8 j9 j10 => by show (if j = 5 then _ else _) = _; rw [if_neg j5, if_neg j7, if_neg j8, if_neg j9, if_neg j10]) rfl rfl rfl rfl rfl, hB.same rfl rfl, rfl, rfl, rfl, hI.que hX hnt rfl rfl rfl rfl (fun j j5 j7 j8 j9 j10 => by show (if j = 5 then _ else _) = _; rw [if_neg j5, if_neg j7, if_neg j8, if_neg j9, if_neg j10])⟩) dL_queueing_155
  have L : ∀ (n i : Nat), zN z 0 - i = n → i ≤ zN z 0 → V K f 4 178 19 [(0, .ref (al (15, 0))), (1, .int (nI Y)), (2, .ref (A 0)), (3, .ref (A 3)), (4, .ref (A 6)), (5, .int (bI (mqB fi (zA z) (nI Y) i))), (6, .int (nI i))] [] := by
    intro n
    induction n using Nat.strongRecOn with
    | ind n ih =>
      intro i hn hi
      refine V_iload X rfl dL_queueing_19 ?_
      refine V_aload X rfl dL_queueing_21 ?_
      refine V_iconst X (v := 1) (by decide) dL_queueing_23 ?_
      refine V_ald X hA 6 (1) 4 (by decide) rfl (by omega) (hI.c1) dL_queueing_24 ?_
      refine V_icmp_ge X (tgt := 75) (by decide) dL_queueing_25 (fun hc25 => ?_) (fun hc25 => ?_)
      · have hiN := lim_ge (N := zN z 0) rfl hc25 hi (by omega)
        refine V.lvs (lv' := [(0, _), (1, _), (2, _), (3, _), (4, _), (5, _)]) rfl ?_
        rw [hiN]
        exact T9
      · have hlt := lim_lt (N := zN z 0) rfl hc25 hi (by omega)
        have hu : la 3 i = fi 4 i := (hI.pl hlt).2.1.trans ((hS.pl hlt).2.2.2.2.1).symm
        refine V_iload X rfl dL_queueing_28 ?_
        refine V_if_eq X (tgt := 66) (by decide) dL_queueing_30 (fun hc30 => ?_) (fun hc30 => ?_)
        · refine V_iconst X (v := 0) (by decide) dL_queueing_66 ?_
          refine V.top (y := bI (mqB fi (zA z) (nI Y) (i + 1))) (by rw [mqB_s, bI_eq0 hc30, Bool.false_and]; rfl) ?_
          refine V_istore X (lv' := [(5, _), (0, _), (1, _), (2, _), (3, _), (4, _), (6, _)]) (by decide) rfl dL_queueing_67 ?_
          refine V_iinc X (lv' := [(6, _), (5, _), (0, _), (1, _), (2, _), (3, _), (4, _)]) (v := nI (i + 1)) rfl (nI_1 _) (by decide) rfl dL_queueing_69 ?_
          refine V_goto X (tgt := 19) (by decide) dL_queueing_72 ?_
          refine V.lvs (lv' := [(0, _), (1, _), (2, _), (3, _), (4, _), (5, _), (6, _)]) rfl ?_
          exact ih (zN z 0 - (i + 1)) (by omega) (i + 1) rfl (by omega)
        · refine V_iload_n X rfl dL_queueing_33 ?_
          refine V_iload X rfl dL_queueing_34 ?_
          refine V_callSp X (rest := _) (c_L_has _ _ _ _ _) gL_queueing_L_has rfl hds_L_has (Nat.le_of_ble_eq_true rfl) (Nat.le_of_ble_eq_true rfl) rfl (Nat.le_of_ble_eq_true rfl) dL_queueing_36 ?_
          refine V_if_eq X (tgt := 62) (by decide) dL_queueing_39 (fun hc39 => ?_) (fun hc39 => ?_)
          · refine V_iconst X (v := 1) (by decide) dL_queueing_62 ?_
            refine V_goto X (tgt := 67) (by decide) dL_queueing_63 ?_
            refine V.top (y := bI (mqB fi (zA z) (nI Y) (i + 1))) (by rw [mqB_s, bI_ne0 hc30, Bool.true_and]; unfold mqT; rw [bI_eq0 hc39]; rfl) ?_
            refine V_istore X (lv' := [(5, _), (0, _), (1, _), (2, _), (3, _), (4, _), (6, _)]) (by decide) rfl dL_queueing_67 ?_
            refine V_iinc X (lv' := [(6, _), (5, _), (0, _), (1, _), (2, _), (3, _), (4, _)]) (v := nI (i + 1)) rfl (nI_1 _) (by decide) rfl dL_queueing_69 ?_
            refine V_goto X (tgt := 19) (by decide) dL_queueing_72 ?_
            refine V.lvs (lv' := [(0, _), (1, _), (2, _), (3, _), (4, _), (5, _), (6, _)]) rfl ?_
            exact ih (zN z 0 - (i + 1)) (by omega) (i + 1) rfl (by omega)
          · refine V_aload_n X rfl dL_queueing_42 ?_
            refine V_iload X rfl dL_queueing_43 ?_
            refine V_callVp X (rest := _) (c_X5_state_t _ _ _ al fi z hR i hlt) (hR.2.1 (15, 0) dm15) rfl gL_queueing_X5_state rfl hdv_X5_state (Nat.le_of_ble_eq_true rfl) (Nat.le_of_ble_eq_true rfl) rfl (Nat.le_of_ble_eq_true rfl) dL_queueing_45 ?_
            refine V_if_ne X (tgt := 66) (by decide) dL_queueing_48 (fun hc48 => ?_) (fun hc48 => ?_)
            · refine V_iconst X (v := 0) (by decide) dL_queueing_66 ?_
              refine V.top (y := bI (mqB fi (zA z) (nI Y) (i + 1))) (by rw [mqB_s, bI_ne0 hc30, Bool.true_and]; unfold mqT; rw [bI_ne0 hc39, decide_eq_false hc48]; rfl) ?_
              refine V_istore X (lv' := [(5, _), (0, _), (1, _), (2, _), (3, _), (4, _), (6, _)]) (by decide) rfl dL_queueing_67 ?_
              refine V_iinc X (lv' := [(6, _), (5, _), (0, _), (1, _), (2, _), (3, _), (4, _)]) (v := nI (i + 1)) rfl (nI_1 _) (by decide) rfl dL_queueing_69 ?_
              refine V_goto X (tgt := 19) (by decide) dL_queueing_72 ?_
              refine V.lvs (lv' := [(0, _), (1, _), (2, _), (3, _), (4, _), (5, _), (6, _)]) rfl ?_
              exact ih (zN z 0 - (i + 1)) (by omega) (i + 1) rfl (by omega)
            · refine V_aload_n X rfl dL_queueing_51 ?_
              refine V_iload X rfl dL_queueing_52 ?_
              refine V_ald X hA 3 (i) 18 (by decide) rfl (by omega) (hu) dL_queueing_54 ?_
              refine V_aload X rfl dL_queueing_55 ?_
              refine V_iconst X (v := 0) (by decide) dL_queueing_57 ?_
              refine V_ald X hA 6 (0) 4 (by decide) rfl (by omega) (hI.c0) dL_queueing_58 ?_
              refine V_icmp_gt X (tgt := 66) (by decide) dL_queueing_59 (fun hc59 => ?_) (fun hc59 => ?_)
              · refine V_iconst X (v := 0) (by decide) dL_queueing_66 ?_
                refine V.top (y := bI (mqB fi (zA z) (nI Y) (i + 1))) (by rw [mqB_s, bI_ne0 hc30, Bool.true_and]; unfold mqT; rw [bI_ne0 hc39, decide_eq_true hc48, hS.ck, decide_eq_false (Int32.not_le.mpr hc59)]; rfl) ?_
                refine V_istore X (lv' := [(5, _), (0, _), (1, _), (2, _), (3, _), (4, _), (6, _)]) (by decide) rfl dL_queueing_67 ?_
                refine V_iinc X (lv' := [(6, _), (5, _), (0, _), (1, _), (2, _), (3, _), (4, _)]) (v := nI (i + 1)) rfl (nI_1 _) (by decide) rfl dL_queueing_69 ?_
                refine V_goto X (tgt := 19) (by decide) dL_queueing_72 ?_
                refine V.lvs (lv' := [(0, _), (1, _), (2, _), (3, _), (4, _), (5, _), (6, _)]) rfl ?_
                exact ih (zN z 0 - (i + 1)) (by omega) (i + 1) rfl (by omega)
              · refine V_iconst X (v := 1) (by decide) dL_queueing_62 ?_
                refine V_goto X (tgt := 67) (by decide) dL_queueing_63 ?_
                refine V.top (y := bI (mqB fi (zA z) (nI Y) (i + 1))) (by rw [mqB_s, bI_ne0 hc30, Bool.true_and]; unfold mqT; rw [bI_ne0 hc39, decide_eq_true hc48, hS.ck, decide_eq_true (Int32.not_lt.mp hc59)]; rfl) ?_
                refine V_istore X (lv' := [(5, _), (0, _), (1, _), (2, _), (3, _), (4, _), (6, _)]) (by decide) rfl dL_queueing_67 ?_
                refine V_iinc X (lv' := [(6, _), (5, _), (0, _), (1, _), (2, _), (3, _), (4, _)]) (v := nI (i + 1)) rfl (nI_1 _) (by decide) rfl dL_queueing_69 ?_
                refine V_goto X (tgt := 19) (by decide) dL_queueing_72 ?_
                refine V.lvs (lv' := [(0, _), (1, _), (2, _), (3, _), (4, _), (5, _), (6, _)]) rfl ?_
                exact ih (zN z 0 - (i + 1)) (by omega) (i + 1) rfl (by omega)
  refine V_aload X rfl dL_queueing_0 ?_
  refine V_iconst X (v := 2) (by decide) dL_queueing_2 ?_
  refine V_ald X hA 6 (2) 4 (by decide) rfl (by omega) (hI.c2) dL_queueing_3 ?_
  refine V_bipush X (v := 60) (by decide) dL_queueing_4 ?_
  refine V_icmp_ge X (tgt := 13) (by decide) dL_queueing_6 (fun hc6 => absurd hc6 (Int32.not_le.mpr (nI_lt (a := zN z 1) (b := 60) hnt (by decide)))) (fun hc6 => ?_)
  refine V_iconst X (v := 1) (by decide) dL_queueing_9 ?_
  refine V_goto X (tgt := 14) (by decide) dL_queueing_10 ?_
  refine V_istore X (lv' := [(5, _), (0, _), (1, _), (2, _), (3, _), (4, _)]) (by decide) rfl dL_queueing_14 ?_
  refine V_iconst X (v := 0) (by decide) dL_queueing_16 ?_
  refine V_istore X (lv' := [(6, _), (5, _), (0, _), (1, _), (2, _), (3, _), (4, _)]) (by decide) rfl dL_queueing_17 ?_
  refine V.lvs (lv' := [(0, _), (1, _), (2, _), (3, _), (4, _), (5, _), (6, _)]) rfl ?_
  exact L _ 0 rfl (Nat.zero_le _)
