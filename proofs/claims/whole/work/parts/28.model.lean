/-- the parties that queue, in their order -/
def qsL (q : Nat → Int32) : Nat → List Nat
  | 0 => []
  | i + 1 => if q i = 0 then qsL q i else qsL q i ++ [i]
def lnF (L : List Nat) (g : Nat → Int32) : Nat → Int32 := fun k => match L[k]? with
  | some x => nI x
  | none => g k
theorem lnF_0 (g : Nat → Int32) : lnF [] g = g := funext fun _ => rfl
theorem lnF_s (L : List Nat) (g : Nat → Int32) (i : Nat) : va_up (lnF L g) L.length (nI i) = lnF (L ++ [i]) g := by
  funext k
  unfold va_up lnF
  by_cases hk : k = L.length
  · subst hk
    rw [if_pos rfl, List.getElem?_append_right (Nat.le_refl _), Nat.sub_self]
    rfl
  · rw [if_neg hk]
    by_cases h2 : k < L.length
    · rw [List.getElem?_append_left h2]
    · rw [List.getElem?_append_right (by omega), List.getElem?_eq_none (by omega), List.getElem?_eq_none (by simp; omega)]
theorem qsL_len (q : Nat → Int32) (i : Nat) : (qsL q i).length ≤ (qsL q (i + 1)).length := by
  show _ ≤ (if q i = 0 then qsL q i else qsL q i ++ [i]).length
  by_cases h : q i = 0
  · rw [if_pos h]; exact Nat.le_refl _
  · rw [if_neg h]; simp
theorem qsL_mono (q : Nat → Int32) {i j : Nat} (h : i ≤ j) : (qsL q i).length ≤ (qsL q j).length := by
  induction j with
  | zero => rw [show i = 0 by omega]; exact Nat.le_refl _
  | succ j ih =>
    by_cases hij : i = j + 1
    · subst hij; exact Nat.le_refl _
    · exact Nat.le_trans (ih (by omega)) (qsL_len q j)
theorem va_up56 (sc : Nat → Int32) (a b a' b' : Int32) : va_up (va_up (va_up (va_up sc 5 a) 6 b) 6 b') 5 a' = va_up (va_up sc 5 a') 6 b' := by
  funext j
  simp only [va_up]
  by_cases h5 : j = 5
  · simp [h5]
  · by_cases h6 : j = 6
    · simp [h6]
    · simp [h5, h6]
theorem hinX6_lines_X6 : ∀ w ∈ wsX60, w ∈ wsX6_lines := by decide +kernel
set_option maxHeartbeats 4000000 in
set_option maxRecDepth 100000 in
theorem c_X6_lines (l : Launch) (G : GG) (f : Wo) (am : Nat → Nat) (sc : Nat → Int32) (ar : Nat → Nat → Int32) (hR : RM G am sc ar f) (nt : Nat) (hnt : sc 1 = nI nt) (ht100 : nt ≤ 100) (hq18 : (qsL (ar 9) nt).length ≤ 18) : Ct l yX6_lines wsX6_lines 1 44 G [.ref (am 0)] f (fun v9 f' => v9 = none ∧ RM G am (va_up sc 4 (nI (qsL (ar 9) nt).length)) (va_up ar 16 (lnF (qsL (ar 9) nt) (ar 16))) f' ∧ FrM am f f') 0 0 := by
  refine Ct.of (cc := cX6_lines) (maxL := 2) (ret := none) (by decide) rfl (Nat.le_of_ble_eq_true rfl) (lv := [(0, _)]) rfl (by simp [Value.category]) ?_
  intro K X hL hG hr hnm
  subst hL; subst hG
  have hF : FrM am f f := FrM.rf
  have L : ∀ (n i : Nat), nt - i = n → i ≤ nt → ∀ (fw : Wo), RM (kG K) am (va_up sc 4 (nI (qsL (ar 9) i).length)) (va_up ar 16 (lnF (qsL (ar 9) i) (ar 16))) fw → FrM am f fw → V K fw 0 0 7 [(0, .ref (am 0)), (1, .int (nI i))] [] := by
    intro n
    induction n using Nat.strongRecOn with
    | ind n ih =>
      intro i hn hi f hR hF
      refine V_iload_n X rfl dX6_lines_7 ?_
      refine V_aload_n X rfl dX6_lines_8 ?_
      refine V_mget X hR (v := .int (nI nt)) 7 (by decide) hinX6_lines_X6 (congrArg (fun z => some (Value.int z)) (hnt)) (by decide +kernel) rfl dX6_lines_9 ?_
      refine V_icmp_ge X (tgt := 50) (by decide) dX6_lines_12 (fun hc12 => ?_) (fun hc12 => ?_)
      · have hi18 := lim_ge (N := nt) rfl hc12 hi (by omega)
        subst hi18
        exact V_vret X hr (⟨rfl, hR, hF⟩) dX6_lines_50
      · have hlt := lim_lt (N := nt) rfl hc12 hi (by omega)
        refine V_aload_n X rfl dX6_lines_15 ?_
        refine V_mget X hR (v := .ref (am 9)) 10 (by decide) hinX6_lines_X6 (rfl) (by decide +kernel) rfl dX6_lines_16 ?_
        refine V_iload_n X rfl dX6_lines_19 ?_
        refine V_mzld X hR (i) (by omega) rfl dX6_lines_20 ?_
        refine V_if_eq X (tgt := 44) (by decide) dX6_lines_21 (fun hc21 => ?_) (fun hc21 => ?_)
        · refine V_iinc X (lv' := [(1, _), (0, _)]) (v := nI (i + 1)) rfl (nI_1 _) (by decide) rfl dX6_lines_44 ?_
          refine V_goto X (tgt := 7) (by decide) dX6_lines_47 ?_
          refine V.lvs (lv' := [(0, _), (1, _)]) rfl ?_
          have e9 : qsL (ar 9) (i + 1) = qsL (ar 9) i := if_pos hc21
          refine ih (nt - (i + 1)) (by omega) (i + 1) rfl (by omega) f (by rw [e9]; exact hR) hF
        · have e9 : qsL (ar 9) (i + 1) = qsL (ar 9) i ++ [i] := if_neg hc21
          have hl9 : (qsL (ar 9) i).length < 18 := by
            have h1 := qsL_mono (ar 9) (show i + 1 ≤ nt by omega)
            rw [e9, List.length_append] at h1
            have h2 : [i].length = 1 := rfl
            omega
          refine V_aload_n X rfl dX6_lines_24 ?_
          refine V_mget X hR (v := .ref (am 16)) 20 (by decide) hinX6_lines_X6 (rfl) (by decide +kernel) rfl dX6_lines_25 ?_
          refine V_aload_n X rfl dX6_lines_28 ?_
          refine V_mget X hR (v := .int (nI (qsL (ar 9) i).length)) 19 (by decide) hinX6_lines_X6 (congrArg (fun z => some (Value.int z)) (rfl)) (by decide +kernel) rfl dX6_lines_29 ?_
          refine V_iload_n X rfl dX6_lines_32 ?_
          refine V_mast X hR hF 16 ((qsL (ar 9) i).length) 18 (by decide) rfl (by omega) (by decide) dX6_lines_33 (fun f hR hF => ?_)
          refine V_aload_n X rfl dX6_lines_34 ?_
          refine V_dup X rfl dX6_lines_35 ?_
          refine V_mget X hR (v := .int (nI (qsL (ar 9) i).length)) 19 (by decide) hinX6_lines_X6 (congrArg (fun z => some (Value.int z)) (rfl)) (by decide +kernel) rfl dX6_lines_36 ?_
          refine V_iconst X (v := 1) (by decide) dX6_lines_39 ?_
          refine V_iadd X dX6_lines_40 ?_
          refine V_mput X hR hF 4 19 (by decide) hinX6_lines_X6 rfl (by decide +kernel) rfl rfl rfl dX6_lines_41 (fun f hR hF => ?_)
          refine V_iinc X (lv' := [(1, _), (0, _)]) (v := nI (i + 1)) rfl (nI_1 _) (by decide) rfl dX6_lines_44 ?_
          refine V_goto X (tgt := 7) (by decide) dX6_lines_47 ?_
          refine V.lvs (lv' := [(0, _), (1, _)]) rfl ?_
          exact ih (nt - (i + 1)) (by omega) (i + 1) rfl (by omega) _ (by rw [va_up_up, va_up_up, va_up_self, lnF_s, ← e9] at hR; rw [show nI (qsL (ar 9) (i + 1)).length = nI (qsL (ar 9) i).length + 1 from by rw [e9, List.length_append, nI_1]; rfl]; exact hR) hF
  refine V_aload_n X rfl dX6_lines_0 ?_
  refine V_iconst X (v := 0) (by decide) dX6_lines_1 ?_
  refine V_mput X hR hF 4 19 (by decide) hinX6_lines_X6 rfl (by decide +kernel) rfl rfl rfl dX6_lines_2 (fun f hR hF => ?_)
  refine V_iconst X (v := 0) (by decide) dX6_lines_5 ?_
  refine V_istore_n X (lv' := [(1, _), (0, _)]) (by decide) rfl dX6_lines_6 ?_
  refine V.lvs (lv' := [(0, _), (1, _)]) rfl ?_
  exact L nt 0 (by omega) (by omega) _ (by rw [show qsL (ar 9) 0 = [] from rfl, lnF_0, va_up_id]; exact hR) hF
/-- the last three players of a set -/
def scF (s : Int32) : Nat → Int32 × Int32 × Int32
  | 0 => (-1, -1, -1)
  | i + 1 => if hsI s (nI i) = true then (nI i, (scF s i).1, (scF s i).2.1) else scF s i
def cntN (p : Nat → Bool) : Nat → Nat
  | 0 => 0
  | i + 1 => cntN p i + (if p i = true then 1 else 0)
theorem bit_bI (s : Int32) (k : Int32) : (s >>> (k &&& 31)) &&& 1 = bI (hsI s k) := by
  by_cases h : (s >>> (k &&& 31)) &&& 1 = 0
  · rw [hs_eq h, h]; rfl
  · have h2 := hs_ne h
    rw [h2]
    unfold hsI at h2
    exact of_decide_eq_true h2
theorem szI_cnt (s : Int32) : ∀ n, sumI (fun k => (s >>> (nI k &&& 31)) &&& 1) n = nI (cntN (fun k => hsI s (nI k)) n)
  | 0 => rfl
  | n + 1 => by
    show sumI _ n + ((s >>> (nI n &&& 31)) &&& 1) = nI (cntN (fun k => hsI s (nI k)) n + (if hsI s (nI n) = true then 1 else 0))
    rw [szI_cnt s n, bit_bI]
    cases h : hsI s (nI n)
    · exact Int32.add_zero _
    · exact nI_1 _
theorem cntN_le (p : Nat → Bool) : ∀ n, cntN p n ≤ n
  | 0 => Nat.le_refl _
  | n + 1 => by
    have := cntN_le p n
    show cntN p n + _ ≤ _
    split <;> omega
theorem cntN_cut {p : Nat → Bool} {np : Nat} : ∀ {n : Nat}, np ≤ n → (∀ k, np ≤ k → k < n → p k = false) → cntN p n = cntN p np
  | 0, h, _ => by rw [show np = 0 by omega]
  | n + 1, h, hz => by
    by_cases e : np = n + 1
    · rw [e]
    · show cntN p n + _ = _
      rw [if_neg (by rw [hz n (by omega) (by omega)]; decide), cntN_cut (n := n) (by omega) (fun k h1 h2 => hz k h1 (by omega))]
      rfl
theorem scF_ok (s : Int32) : ∀ i, (1 ≤ cntN (fun k => hsI s (nI k)) i → ∃ j, j < i ∧ (scF s i).1 = nI j) ∧ (2 ≤ cntN (fun k => hsI s (nI k)) i → ∃ j, j < i ∧ (scF s i).2.1 = nI j) ∧ (3 ≤ cntN (fun k => hsI s (nI k)) i → ∃ j, j < i ∧ (scF s i).2.2 = nI j)
  | 0 => ⟨fun h => absurd h (Nat.not_succ_le_zero _), fun h => absurd h (Nat.not_succ_le_zero _), fun h => absurd h (Nat.not_succ_le_zero _)⟩
  | i + 1 => by
    obtain ⟨h1, h2, h3⟩ := scF_ok s i
    have e1 : cntN (fun k => hsI s (nI k)) (i + 1) = cntN (fun k => hsI s (nI k)) i + (if hsI s (nI i) = true then 1 else 0) := rfl
    have e2 : scF s (i + 1) = if hsI s (nI i) = true then (nI i, (scF s i).1, (scF s i).2.1) else scF s i := rfl
    by_cases h : hsI s (nI i) = true
    · rw [if_pos h] at e1 e2
      rw [e1, e2]
      refine ⟨fun _ => ⟨i, by omega, rfl⟩, fun q => ?_, fun q => ?_⟩
      · obtain ⟨j, a, b⟩ := h1 (by omega); exact ⟨j, by omega, b⟩
      · obtain ⟨j, a, b⟩ := h2 (by omega); exact ⟨j, by omega, b⟩
    · rw [if_neg h] at e1 e2
      rw [e1, e2]
      refine ⟨fun q => ?_, fun q => ?_, fun q => ?_⟩
      · obtain ⟨j, a, b⟩ := h1 (by omega); exact ⟨j, by omega, b⟩
      · obtain ⟨j, a, b⟩ := h2 (by omega); exact ⟨j, by omega, b⟩
      · obtain ⟨j, a, b⟩ := h3 (by omega); exact ⟨j, by omega, b⟩
theorem team3 {s : Int32} {np : Nat} (hp18 : np ≤ 18) (hb : ∀ k, np ≤ k → k < 18 → hsI s (nI k) = false) (h3 : szI s = 3) : ∃ j1 j2 j3, (j1 < np ∧ (scF s np).1 = nI j1) ∧ (j2 < np ∧ (scF s np).2.1 = nI j2) ∧ (j3 < np ∧ (scF s np).2.2 = nI j3) := by
  unfold szI at h3
  rw [szI_cnt, cntN_cut hp18 hb] at h3
  have hl := cntN_le (fun k => hsI s (nI k)) np
  have h4 : cntN (fun k => hsI s (nI k)) np = 3 := (nI_eq (b := 3) (by omega) (by decide)).mp h3
  obtain ⟨a, b, c⟩ := scF_ok s np
  obtain ⟨j1, q1⟩ := a (by omega)
  obtain ⟨j2, q2⟩ := b (by omega)
  obtain ⟨j3, q3⟩ := c (by omega)
  exact ⟨j1, j2, j3, q1, q2, q3⟩
/-- three players take three roles: the first of them the role i, for some i below n -/
def mrB (a b c : Int32) (i : Nat) : Bool := hsI a (nI i) && ((hsI b (nI ((i + 1) % 3)) && hsI c (nI ((i + 2) % 3))) || (hsI b (nI ((i + 2) % 3)) && hsI c (nI ((i + 1) % 3))))
def mB (a b c : Int32) : Nat → Bool
  | 0 => false
  | i + 1 => mB a b c i || mrB a b c i
def tmB (np : Nat) (ro : Nat → Int32) (s : Int32) : Bool := decide (szI s = 3) && mB (ro (scF s np).1.toNatClampNeg) (ro (scF s np).2.1.toNatClampNeg) (ro (scF s np).2.2.toNatClampNeg) 3
theorem nI_rem3 (a c : Nat) (h : a + c < 2 ^ 31) : (nI a + nI c) - (nI a + nI c) / 3 * 3 = nI ((a + c) % 3) := by
  rw [nI_add]
  exact pk_rem (d := 3) h (by decide) (by decide)
theorem hinX6_isTeam_X6 : ∀ w ∈ wsX60, w ∈ wsX6_isTeam := by decide +kernel
set_option maxHeartbeats 4000000 in
set_option maxRecDepth 100000 in
theorem c_X6_isTeam (l : Launch) (G : GG) (f : Wo) (am : Nat → Nat) (sc : Nat → Int32) (ar : Nat → Nat → Int32) (hR : RM G am sc ar f) (np : Nat) (hnp : sc 0 = nI np) (hp18 : np ≤ 18) (s : Int32) (hb : ∀ k, np ≤ k → k < 18 → hsI s (nI k) = false) : Cp l yX6_isTeam wsX6_isTeam 2 66 G [.ref (am 0), .int s] f (.int (bI (tmB np (ar 3) s))) := by
  refine Ct.of (cc := cX6_isTeam) (maxL := 9) (ret := (some .boolean)) (by decide) rfl (Nat.le_of_ble_eq_true rfl) (lv := [(0, _), (1, _)]) rfl (by simp [Value.category]) ?_
  intro K X hL hG hr hnm
  subst hL; subst hG
  refine V_iload_n X rfl dX6_isTeam_0 ?_
  refine V_callSp X (rest := _) (c_X6_size _ _ _ _) gX6_isTeam_X6_size rfl hds_X6_size (Nat.le_of_ble_eq_true rfl) (Nat.le_of_ble_eq_true rfl) rfl (Nat.le_of_ble_eq_true rfl) dX6_isTeam_1 ?_
  refine V_iconst X (v := 3) (by decide) dX6_isTeam_4 ?_
  refine V_icmp_eq X (tgt := 10) (by decide) dX6_isTeam_5 (fun hc5 => ?_) (fun hc5 => ?_)
  · have h3 : szI s = 3 := hc5
    have J52 : V K f 0 0 52 [(0, .ref (am 0)), (1, .int s), (2, .int (scF s np).1), (3, .int (scF s np).2.1), (4, .int (scF s np).2.2), (5, .int (nI np))] [] := by
      obtain ⟨j1, j2, j3, ⟨l1, e1⟩, ⟨l2, e2⟩, ⟨l3, e3⟩⟩ := team3 hp18 hb h3
      have L : ∀ (n i : Nat), 3 - i = n → i ≤ 3 → V K f 0 0 58 [(0, .ref (am 0)), (1, .int s), (2, .int (nI j1)), (3, .int (nI j2)), (4, .int (nI j3)), (5, .int (bI (mB (ar 3 j1) (ar 3 j2) (ar 3 j3) i))), (6, .int (nI i))] [] := by
        intro n
        induction n using Nat.strongRecOn with
        | ind n ih =>
          intro i hn hi
          refine V_iload X rfl dX6_isTeam_58 ?_
          refine V_iconst X (v := 3) (by decide) dX6_isTeam_60 ?_
          refine V_icmp_ge X (tgt := 170) (by decide) dX6_isTeam_61 (fun hc61 => ?_) (fun hc61 => ?_)
          · have hi18 := lim_ge (N := 3) rfl hc61 hi (by omega)
            subst hi18
            refine V_iload X rfl dX6_isTeam_170 ?_
            exact V_zret X hr (bI_nar _) (⟨by rw [tmB, decide_eq_true h3, Bool.true_and, e1, e2, e3, nI_clamp (by omega), nI_clamp (by omega), nI_clamp (by omega)], rfl⟩) dX6_isTeam_172
          · have hlt := lim_lt (N := 3) rfl hc61 hi (by omega)
            refine V_iload X rfl dX6_isTeam_64 ?_
            refine V_iconst X (v := 1) (by decide) dX6_isTeam_66 ?_
            refine V_iadd X dX6_isTeam_67 ?_
            refine V_iconst X (v := 3) (by decide) dX6_isTeam_68 ?_
            refine V_irem X (by decide) dX6_isTeam_69 ?_
            refine V.top (y := nI ((i + 1) % 3)) (nI_rem3 i 1 (by omega)) ?_
            refine V_istore X (lv' := [(7, _), (0, _), (1, _), (2, _), (3, _), (4, _), (5, _), (6, _)]) (by decide) rfl dX6_isTeam_70 ?_
            refine V_iload X rfl dX6_isTeam_72 ?_
            refine V_iconst X (v := 2) (by decide) dX6_isTeam_74 ?_
            refine V_iadd X dX6_isTeam_75 ?_
            refine V_iconst X (v := 3) (by decide) dX6_isTeam_76 ?_
            refine V_irem X (by decide) dX6_isTeam_77 ?_
            refine V.top (y := nI ((i + 2) % 3)) (nI_rem3 i 2 (by omega)) ?_
            refine V_istore X (lv' := [(8, _), (7, _), (0, _), (1, _), (2, _), (3, _), (4, _), (5, _), (6, _)]) (by decide) rfl dX6_isTeam_78 ?_
            refine V_iload X rfl dX6_isTeam_80 ?_
            refine V_if_ne X (tgt := 157) (by decide) dX6_isTeam_82 (fun hc82 => ?_) (fun hc82 => ?_)
            · refine V_iconst X (v := 1) (by decide) dX6_isTeam_157 ?_
              refine V_goto X (tgt := 162) (by decide) dX6_isTeam_158 ?_
              refine V.top (y := bI (mB (ar 3 j1) (ar 3 j2) (ar 3 j3) (i + 1))) (bI_t' (show (_ || mrB _ _ _ _) = true from by rw [bI_ne0 hc82]; rfl)) ?_
              refine V_istore X (lv' := [(5, _), (8, _), (7, _), (0, _), (1, _), (2, _), (3, _), (4, _), (6, _)]) (by decide) rfl dX6_isTeam_162 ?_
              refine V_iinc X (lv' := [(6, _), (5, _), (8, _), (7, _), (0, _), (1, _), (2, _), (3, _), (4, _)]) (v := nI (i + 1)) rfl (nI_1 _) (by decide) rfl dX6_isTeam_164 ?_
              refine V_goto X (tgt := 58) (by decide) dX6_isTeam_167 ?_
              refine V.lvs (lv' := [(0, _), (1, _), (2, _), (3, _), (4, _), (5, _), (6, _)]) rfl ?_
              exact ih (3 - (i + 1)) (by omega) (i + 1) rfl (by omega)
            · refine V_aload_n X rfl dX6_isTeam_85 ?_
              refine V_mget X hR (v := .ref (am 3)) 3 (by decide) hinX6_isTeam_X6 (rfl) (by decide +kernel) rfl dX6_isTeam_86 ?_
              refine V_iload_n X rfl dX6_isTeam_89 ?_
              refine V_mald X hR 3 (j1) 18 (by decide) rfl (by omega) (by decide) rfl dX6_isTeam_90 ?_
              refine V_iload X rfl dX6_isTeam_91 ?_
              refine V_callSp X (rest := _) (c_X6_has _ _ _ _ _) gX6_isTeam_X6_has rfl hds_X6_has (Nat.le_of_ble_eq_true rfl) (Nat.le_of_ble_eq_true rfl) rfl (Nat.le_of_ble_eq_true rfl) dX6_isTeam_93 ?_
              refine V_if_eq X (tgt := 161) (by decide) dX6_isTeam_96 (fun hc96 => ?_) (fun hc96 => ?_)
              · refine V_iconst X (v := 0) (by decide) dX6_isTeam_161 ?_
                refine V.top (y := bI (mB (ar 3 j1) (ar 3 j2) (ar 3 j3) (i + 1))) (bI_f' (show (_ || mrB _ _ _ _) = false from by rw [bI_eq0 (hc82)]; simp [mrB, bI_eq0 hc96])) ?_
                refine V_istore X (lv' := [(5, _), (8, _), (7, _), (0, _), (1, _), (2, _), (3, _), (4, _), (6, _)]) (by decide) rfl dX6_isTeam_162 ?_
                refine V_iinc X (lv' := [(6, _), (5, _), (8, _), (7, _), (0, _), (1, _), (2, _), (3, _), (4, _)]) (v := nI (i + 1)) rfl (nI_1 _) (by decide) rfl dX6_isTeam_164 ?_
                refine V_goto X (tgt := 58) (by decide) dX6_isTeam_167 ?_
                refine V.lvs (lv' := [(0, _), (1, _), (2, _), (3, _), (4, _), (5, _), (6, _)]) rfl ?_
                exact ih (3 - (i + 1)) (by omega) (i + 1) rfl (by omega)
              · refine V_aload_n X rfl dX6_isTeam_99 ?_
                refine V_mget X hR (v := .ref (am 3)) 3 (by decide) hinX6_isTeam_X6 (rfl) (by decide +kernel) rfl dX6_isTeam_100 ?_
                refine V_iload_n X rfl dX6_isTeam_103 ?_
                refine V_mald X hR 3 (j2) 18 (by decide) rfl (by omega) (by decide) rfl dX6_isTeam_104 ?_
                refine V_iload X rfl dX6_isTeam_105 ?_
                refine V_callSp X (rest := _) (c_X6_has _ _ _ _ _) gX6_isTeam_X6_has rfl hds_X6_has (Nat.le_of_ble_eq_true rfl) (Nat.le_of_ble_eq_true rfl) rfl (Nat.le_of_ble_eq_true rfl) dX6_isTeam_107 ?_
                refine V_if_eq X (tgt := 128) (by decide) dX6_isTeam_110 (fun hc110 => ?_) (fun hc110 => ?_)
                · refine V_aload_n X rfl dX6_isTeam_128 ?_
                  refine V_mget X hR (v := .ref (am 3)) 3 (by decide) hinX6_isTeam_X6 (rfl) (by decide +kernel) rfl dX6_isTeam_129 ?_
                  refine V_iload_n X rfl dX6_isTeam_132 ?_
                  refine V_mald X hR 3 (j2) 18 (by decide) rfl (by omega) (by decide) rfl dX6_isTeam_133 ?_
                  refine V_iload X rfl dX6_isTeam_134 ?_
                  refine V_callSp X (rest := _) (c_X6_has _ _ _ _ _) gX6_isTeam_X6_has rfl hds_X6_has (Nat.le_of_ble_eq_true rfl) (Nat.le_of_ble_eq_true rfl) rfl (Nat.le_of_ble_eq_true rfl) dX6_isTeam_136 ?_
                  refine V_if_eq X (tgt := 161) (by decide) dX6_isTeam_139 (fun hc139 => ?_) (fun hc139 => ?_)
                  · refine V_iconst X (v := 0) (by decide) dX6_isTeam_161 ?_
                    refine V.top (y := bI (mB (ar 3 j1) (ar 3 j2) (ar 3 j3) (i + 1))) (bI_f' (show (_ || mrB _ _ _ _) = false from by rw [bI_eq0 hc82]; simp [mrB, bI_ne0 hc96, bI_eq0 hc110, bI_eq0 hc139])) ?_
                    refine V_istore X (lv' := [(5, _), (8, _), (7, _), (0, _), (1, _), (2, _), (3, _), (4, _), (6, _)]) (by decide) rfl dX6_isTeam_162 ?_
                    refine V_iinc X (lv' := [(6, _), (5, _), (8, _), (7, _), (0, _), (1, _), (2, _), (3, _), (4, _)]) (v := nI (i + 1)) rfl (nI_1 _) (by decide) rfl dX6_isTeam_164 ?_
                    refine V_goto X (tgt := 58) (by decide) dX6_isTeam_167 ?_
                    refine V.lvs (lv' := [(0, _), (1, _), (2, _), (3, _), (4, _), (5, _), (6, _)]) rfl ?_
                    exact ih (3 - (i + 1)) (by omega) (i + 1) rfl (by omega)
                  · refine V_aload_n X rfl dX6_isTeam_142 ?_
                    refine V_mget X hR (v := .ref (am 3)) 3 (by decide) hinX6_isTeam_X6 (rfl) (by decide +kernel) rfl dX6_isTeam_143 ?_
                    refine V_iload X rfl dX6_isTeam_146 ?_
                    refine V_mald X hR 3 (j3) 18 (by decide) rfl (by omega) (by decide) rfl dX6_isTeam_148 ?_
                    refine V_iload X rfl dX6_isTeam_149 ?_
                    refine V_callSp X (rest := _) (c_X6_has _ _ _ _ _) gX6_isTeam_X6_has rfl hds_X6_has (Nat.le_of_ble_eq_true rfl) (Nat.le_of_ble_eq_true rfl) rfl (Nat.le_of_ble_eq_true rfl) dX6_isTeam_151 ?_
                    refine V_if_eq X (tgt := 161) (by decide) dX6_isTeam_154 (fun hc154 => ?_) (fun hc154 => ?_)
                    · refine V_iconst X (v := 0) (by decide) dX6_isTeam_161 ?_
                      refine V.top (y := bI (mB (ar 3 j1) (ar 3 j2) (ar 3 j3) (i + 1))) (bI_f' (show (_ || mrB _ _ _ _) = false from by rw [bI_eq0 hc82]; simp [mrB, bI_ne0 hc96, bI_eq0 hc110, bI_ne0 hc139, bI_eq0 hc154])) ?_
                      refine V_istore X (lv' := [(5, _), (8, _), (7, _), (0, _), (1, _), (2, _), (3, _), (4, _), (6, _)]) (by decide) rfl dX6_isTeam_162 ?_
                      refine V_iinc X (lv' := [(6, _), (5, _), (8, _), (7, _), (0, _), (1, _), (2, _), (3, _), (4, _)]) (v := nI (i + 1)) rfl (nI_1 _) (by decide) rfl dX6_isTeam_164 ?_
                      refine V_goto X (tgt := 58) (by decide) dX6_isTeam_167 ?_
                      refine V.lvs (lv' := [(0, _), (1, _), (2, _), (3, _), (4, _), (5, _), (6, _)]) rfl ?_
                      exact ih (3 - (i + 1)) (by omega) (i + 1) rfl (by omega)
                    · refine V_iconst X (v := 1) (by decide) dX6_isTeam_157 ?_
                      refine V_goto X (tgt := 162) (by decide) dX6_isTeam_158 ?_
                      refine V.top (y := bI (mB (ar 3 j1) (ar 3 j2) (ar 3 j3) (i + 1))) (bI_t' (show (_ || mrB _ _ _ _) = true from by rw [bI_eq0 hc82]; simp [mrB, bI_ne0 hc96, bI_eq0 hc110, bI_ne0 hc139, bI_ne0 hc154])) ?_
                      refine V_istore X (lv' := [(5, _), (8, _), (7, _), (0, _), (1, _), (2, _), (3, _), (4, _), (6, _)]) (by decide) rfl dX6_isTeam_162 ?_
                      refine V_iinc X (lv' := [(6, _), (5, _), (8, _), (7, _), (0, _), (1, _), (2, _), (3, _), (4, _)]) (v := nI (i + 1)) rfl (nI_1 _) (by decide) rfl dX6_isTeam_164 ?_
                      refine V_goto X (tgt := 58) (by decide) dX6_isTeam_167 ?_
                      refine V.lvs (lv' := [(0, _), (1, _), (2, _), (3, _), (4, _), (5, _), (6, _)]) rfl ?_
                      exact ih (3 - (i + 1)) (by omega) (i + 1) rfl (by omega)
                · refine V_aload_n X rfl dX6_isTeam_113 ?_
                  refine V_mget X hR (v := .ref (am 3)) 3 (by decide) hinX6_isTeam_X6 (rfl) (by decide +kernel) rfl dX6_isTeam_114 ?_
                  refine V_iload X rfl dX6_isTeam_117 ?_
                  refine V_mald X hR 3 (j3) 18 (by decide) rfl (by omega) (by decide) rfl dX6_isTeam_119 ?_
                  refine V_iload X rfl dX6_isTeam_120 ?_
                  refine V_callSp X (rest := _) (c_X6_has _ _ _ _ _) gX6_isTeam_X6_has rfl hds_X6_has (Nat.le_of_ble_eq_true rfl) (Nat.le_of_ble_eq_true rfl) rfl (Nat.le_of_ble_eq_true rfl) dX6_isTeam_122 ?_
                  refine V_if_ne X (tgt := 157) (by decide) dX6_isTeam_125 (fun hc125 => ?_) (fun hc125 => ?_)
                  · refine V_iconst X (v := 1) (by decide) dX6_isTeam_157 ?_
                    refine V_goto X (tgt := 162) (by decide) dX6_isTeam_158 ?_
                    refine V.top (y := bI (mB (ar 3 j1) (ar 3 j2) (ar 3 j3) (i + 1))) (bI_t' (show (_ || mrB _ _ _ _) = true from by rw [bI_eq0 hc82]; simp [mrB, bI_ne0 hc96, bI_ne0 hc110, bI_ne0 hc125])) ?_
                    refine V_istore X (lv' := [(5, _), (8, _), (7, _), (0, _), (1, _), (2, _), (3, _), (4, _), (6, _)]) (by decide) rfl dX6_isTeam_162 ?_
                    refine V_iinc X (lv' := [(6, _), (5, _), (8, _), (7, _), (0, _), (1, _), (2, _), (3, _), (4, _)]) (v := nI (i + 1)) rfl (nI_1 _) (by decide) rfl dX6_isTeam_164 ?_
                    refine V_goto X (tgt := 58) (by decide) dX6_isTeam_167 ?_
                    refine V.lvs (lv' := [(0, _), (1, _), (2, _), (3, _), (4, _), (5, _), (6, _)]) rfl ?_
                    exact ih (3 - (i + 1)) (by omega) (i + 1) rfl (by omega)
                  · refine V_aload_n X rfl dX6_isTeam_128 ?_
                    refine V_mget X hR (v := .ref (am 3)) 3 (by decide) hinX6_isTeam_X6 (rfl) (by decide +kernel) rfl dX6_isTeam_129 ?_
                    refine V_iload_n X rfl dX6_isTeam_132 ?_
                    refine V_mald X hR 3 (j2) 18 (by decide) rfl (by omega) (by decide) rfl dX6_isTeam_133 ?_
                    refine V_iload X rfl dX6_isTeam_134 ?_
                    refine V_callSp X (rest := _) (c_X6_has _ _ _ _ _) gX6_isTeam_X6_has rfl hds_X6_has (Nat.le_of_ble_eq_true rfl) (Nat.le_of_ble_eq_true rfl) rfl (Nat.le_of_ble_eq_true rfl) dX6_isTeam_136 ?_
                    refine V_if_eq X (tgt := 161) (by decide) dX6_isTeam_139 (fun hc139 => ?_) (fun hc139 => ?_)
                    · refine V_iconst X (v := 0) (by decide) dX6_isTeam_161 ?_
                      refine V.top (y := bI (mB (ar 3 j1) (ar 3 j2) (ar 3 j3) (i + 1))) (bI_f' (show (_ || mrB _ _ _ _) = false from by rw [bI_eq0 hc82]; simp [mrB, bI_ne0 hc96, bI_ne0 hc110, bI_eq0 hc125, bI_eq0 hc139])) ?_
                      refine V_istore X (lv' := [(5, _), (8, _), (7, _), (0, _), (1, _), (2, _), (3, _), (4, _), (6, _)]) (by decide) rfl dX6_isTeam_162 ?_
                      refine V_iinc X (lv' := [(6, _), (5, _), (8, _), (7, _), (0, _), (1, _), (2, _), (3, _), (4, _)]) (v := nI (i + 1)) rfl (nI_1 _) (by decide) rfl dX6_isTeam_164 ?_
                      refine V_goto X (tgt := 58) (by decide) dX6_isTeam_167 ?_
                      refine V.lvs (lv' := [(0, _), (1, _), (2, _), (3, _), (4, _), (5, _), (6, _)]) rfl ?_
                      exact ih (3 - (i + 1)) (by omega) (i + 1) rfl (by omega)
                    · refine V_aload_n X rfl dX6_isTeam_142 ?_
                      refine V_mget X hR (v := .ref (am 3)) 3 (by decide) hinX6_isTeam_X6 (rfl) (by decide +kernel) rfl dX6_isTeam_143 ?_
                      refine V_iload X rfl dX6_isTeam_146 ?_
                      refine V_mald X hR 3 (j3) 18 (by decide) rfl (by omega) (by decide) rfl dX6_isTeam_148 ?_
                      refine V_iload X rfl dX6_isTeam_149 ?_
                      refine V_callSp X (rest := _) (c_X6_has _ _ _ _ _) gX6_isTeam_X6_has rfl hds_X6_has (Nat.le_of_ble_eq_true rfl) (Nat.le_of_ble_eq_true rfl) rfl (Nat.le_of_ble_eq_true rfl) dX6_isTeam_151 ?_
                      refine V_if_eq X (tgt := 161) (by decide) dX6_isTeam_154 (fun hc154 => ?_) (fun hc154 => ?_)
                      · refine V_iconst X (v := 0) (by decide) dX6_isTeam_161 ?_
                        refine V.top (y := bI (mB (ar 3 j1) (ar 3 j2) (ar 3 j3) (i + 1))) (bI_f' (show (_ || mrB _ _ _ _) = false from by rw [bI_eq0 hc82]; simp [mrB, bI_ne0 hc96, bI_ne0 hc110, bI_eq0 hc125, bI_ne0 hc139, bI_eq0 hc154])) ?_
                        refine V_istore X (lv' := [(5, _), (8, _), (7, _), (0, _), (1, _), (2, _), (3, _), (4, _), (6, _)]) (by decide) rfl dX6_isTeam_162 ?_
                        refine V_iinc X (lv' := [(6, _), (5, _), (8, _), (7, _), (0, _), (1, _), (2, _), (3, _), (4, _)]) (v := nI (i + 1)) rfl (nI_1 _) (by decide) rfl dX6_isTeam_164 ?_
                        refine V_goto X (tgt := 58) (by decide) dX6_isTeam_167 ?_
                        refine V.lvs (lv' := [(0, _), (1, _), (2, _), (3, _), (4, _), (5, _), (6, _)]) rfl ?_
                        exact ih (3 - (i + 1)) (by omega) (i + 1) rfl (by omega)
                      · refine V_iconst X (v := 1) (by decide) dX6_isTeam_157 ?_
                        refine V_goto X (tgt := 162) (by decide) dX6_isTeam_158 ?_
                        refine V.top (y := bI (mB (ar 3 j1) (ar 3 j2) (ar 3 j3) (i + 1))) (bI_t' (show (_ || mrB _ _ _ _) = true from by rw [bI_eq0 hc82]; simp [mrB, bI_ne0 hc96, bI_ne0 hc110, bI_eq0 hc125, bI_ne0 hc139, bI_ne0 hc154])) ?_
                        refine V_istore X (lv' := [(5, _), (8, _), (7, _), (0, _), (1, _), (2, _), (3, _), (4, _), (6, _)]) (by decide) rfl dX6_isTeam_162 ?_
                        refine V_iinc X (lv' := [(6, _), (5, _), (8, _), (7, _), (0, _), (1, _), (2, _), (3, _), (4, _)]) (v := nI (i + 1)) rfl (nI_1 _) (by decide) rfl dX6_isTeam_164 ?_
                        refine V_goto X (tgt := 58) (by decide) dX6_isTeam_167 ?_
                        refine V.lvs (lv' := [(0, _), (1, _), (2, _), (3, _), (4, _), (5, _), (6, _)]) rfl ?_
                        exact ih (3 - (i + 1)) (by omega) (i + 1) rfl (by omega)
      rw [e1, e2, e3]
      refine V_iconst X (v := 0) (by decide) dX6_isTeam_52 ?_
      refine V_istore X (lv' := [(5, _), (0, _), (1, _), (2, _), (3, _), (4, _)]) (by decide) rfl dX6_isTeam_53 ?_
      refine V_iconst X (v := 0) (by decide) dX6_isTeam_55 ?_
      refine V_istore X (lv' := [(6, _), (5, _), (0, _), (1, _), (2, _), (3, _), (4, _)]) (by decide) rfl dX6_isTeam_56 ?_
      refine V.lvs (lv' := [(0, _), (1, _), (2, _), (3, _), (4, _), (5, _), (6, _)]) rfl ?_
      exact L 3 0 (by omega) (by omega)
    have L : ∀ (n i : Nat), np - i = n → i ≤ np → V K f 0 0 20 [(0, .ref (am 0)), (1, .int s), (2, .int (scF s i).1), (3, .int (scF s i).2.1), (4, .int (scF s i).2.2), (5, .int (nI i))] [] := by
      intro n
      induction n using Nat.strongRecOn with
      | ind n ih =>
        intro i hn hi
        refine V_iload X rfl dX6_isTeam_20 ?_
        refine V_aload_n X rfl dX6_isTeam_22 ?_
        refine V_mget X hR (v := .int (nI np)) 0 (by decide) hinX6_isTeam_X6 (congrArg (fun z => some (Value.int z)) (hnp)) (by decide +kernel) rfl dX6_isTeam_23 ?_
        refine V_icmp_ge X (tgt := 52) (by decide) dX6_isTeam_26 (fun hc26 => ?_) (fun hc26 => ?_)
        · have hi18 := lim_ge (N := np) rfl hc26 hi (by omega)
          subst hi18
          exact J52
        · have hlt := lim_lt (N := np) rfl hc26 hi (by omega)
          refine V_iload_n X rfl dX6_isTeam_29 ?_
          refine V_iload X rfl dX6_isTeam_30 ?_
          refine V_callSp X (rest := _) (c_X6_has _ _ _ _ _) gX6_isTeam_X6_has rfl hds_X6_has (Nat.le_of_ble_eq_true rfl) (Nat.le_of_ble_eq_true rfl) rfl (Nat.le_of_ble_eq_true rfl) dX6_isTeam_32 ?_
          refine V_if_eq X (tgt := 46) (by decide) dX6_isTeam_35 (fun hc35 => ?_) (fun hc35 => ?_)
          · refine V_iinc X (lv' := [(5, _), (0, _), (1, _), (2, _), (3, _), (4, _)]) (v := nI (i + 1)) rfl (nI_1 _) (by decide) rfl dX6_isTeam_46 ?_
            refine V_goto X (tgt := 20) (by decide) dX6_isTeam_49 ?_
            have e9 : scF s (i + 1) = scF s i := if_neg (by rw [bI_eq0 hc35]; decide)
            refine V.lvs (lv' := [(0, _), (1, _), (2, _), (3, _), (4, _), (5, _)]) rfl ?_
            have z := ih (np - (i + 1)) (by omega) (i + 1) rfl (by omega)
            rw [e9] at z
            exact z
          · refine V_iload_n X rfl dX6_isTeam_38 ?_
            refine V_istore X (lv' := [(4, _), (0, _), (1, _), (2, _), (3, _), (5, _)]) (by decide) rfl dX6_isTeam_39 ?_
            refine V_iload_n X rfl dX6_isTeam_41 ?_
            refine V_istore_n X (lv' := [(3, _), (4, _), (0, _), (1, _), (2, _), (5, _)]) (by decide) rfl dX6_isTeam_42 ?_
            refine V_iload X rfl dX6_isTeam_43 ?_
            refine V_istore_n X (lv' := [(2, _), (3, _), (4, _), (0, _), (1, _), (5, _)]) (by decide) rfl dX6_isTeam_45 ?_
            refine V_iinc X (lv' := [(5, _), (2, _), (3, _), (4, _), (0, _), (1, _)]) (v := nI (i + 1)) rfl (nI_1 _) (by decide) rfl dX6_isTeam_46 ?_
            refine V_goto X (tgt := 20) (by decide) dX6_isTeam_49 ?_
            have e9 : scF s (i + 1) = (nI i, (scF s i).1, (scF s i).2.1) := if_pos (bI_ne0 hc35)
            refine V.lvs (lv' := [(0, _), (1, _), (2, _), (3, _), (4, _), (5, _)]) rfl ?_
            have z := ih (np - (i + 1)) (by omega) (i + 1) rfl (by omega)
            rw [e9] at z
            exact z
    refine V_iconst X (v := (-1)) (by decide) dX6_isTeam_10 ?_
    refine V_istore_n X (lv' := [(2, _), (0, _), (1, _)]) (by decide) rfl dX6_isTeam_11 ?_
    refine V_iconst X (v := (-1)) (by decide) dX6_isTeam_12 ?_
    refine V_istore_n X (lv' := [(3, _), (2, _), (0, _), (1, _)]) (by decide) rfl dX6_isTeam_13 ?_
    refine V_iconst X (v := (-1)) (by decide) dX6_isTeam_14 ?_
    refine V_istore X (lv' := [(4, _), (3, _), (2, _), (0, _), (1, _)]) (by decide) rfl dX6_isTeam_15 ?_
    refine V_iconst X (v := 0) (by decide) dX6_isTeam_17 ?_
    refine V_istore X (lv' := [(5, _), (4, _), (3, _), (2, _), (0, _), (1, _)]) (by decide) rfl dX6_isTeam_18 ?_
    refine V.lvs (lv' := [(0, _), (1, _), (2, _), (3, _), (4, _), (5, _)]) rfl ?_
    exact L np 0 (by omega) (by omega)
  · refine V_iconst X (v := 0) (by decide) dX6_isTeam_8 ?_
    exact V_zret X hr (by decide) (⟨bI_f (by rw [tmB, decide_eq_false hc5]; rfl), rfl⟩) dX6_isTeam_9
