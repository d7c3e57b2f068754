def lnQ (Q : List Nat) : Nat → Nat := fun i => Q.getD i 0
theorem lnF_at {Q : List Nat} {g : Nat → Int32} {i : Nat} (h : i < Q.length) : lnF Q g i = nI (lnQ Q i) := by
  unfold lnF lnQ
  rw [List.getElem?_eq_getElem h, List.getD_eq_getElem?_getD, List.getElem?_eq_getElem h]
  rfl
theorem qsL_in {q : Nat → Int32} : ∀ {n t : Nat}, t ∈ qsL q n → t < n ∧ ¬ q t = 0
  | 0, t, h => absurd h List.not_mem_nil
  | n + 1, t, h => by
    have e : qsL q (n + 1) = if q n = 0 then qsL q n else qsL q n ++ [n] := rfl
    by_cases h0 : q n = 0
    · rw [e, if_pos h0] at h
      obtain ⟨a, b⟩ := qsL_in h
      exact ⟨by omega, b⟩
    · rw [e, if_neg h0] at h
      rcases List.mem_append.mp h with h | h
      · obtain ⟨a, b⟩ := qsL_in h
        exact ⟨by omega, b⟩
      · rw [List.mem_singleton.mp h]
        exact ⟨by omega, h0⟩
theorem lnQ_in {q : Nat → Int32} {n i : Nat} (h : i < (qsL q n).length) : lnQ (qsL q n) i < n ∧ ¬ q (lnQ (qsL q n) i) = 0 := by
  refine qsL_in (n := n) ?_
  unfold lnQ
  rw [List.getD_eq_getElem?_getD, List.getElem?_eq_getElem h]
  exact List.getElem_mem h
theorem fi_rest {e x : Nat} (he : e < 31) (hx : x < 2 ^ e) : (nI (2 ^ e) ||| nI x) &&& (nI (2 ^ e) ^^^ (-1)) = nI x := gb_ext fun k hk => by
  rw [gb_and, gb_or, gb_not _ hk, gb_nI _ hk, gb_nI _ hk, Nat.testBit_two_pow]
  by_cases h : e = k
  · subst h
    rw [Nat.testBit_lt_two_pow hx]
    simp
  · rw [decide_eq_false h]
    simp
/-- what the first difference is doesn't matter -/
theorem stS_d {np mn : Nat} {ar : Nat → Nat → Int32} {ln : Nat → Nat} {fi : Int32} {r p : Nat} {q q' : Int32 × Int32} (h : q = q' ∨ (q.1 = 0 ∧ q'.1 = 0)) : stS np mn ar ln fi r p q = stS np mn ar ln fi r p q' ∨ ((stS np mn ar ln fi r p q).1 = 0 ∧ (stS np mn ar ln fi r p q').1 = 0) := by
  rcases h with h | ⟨h1, h2⟩
  · rw [h]; exact Or.inl rfl
  · unfold stS
    by_cases hp : posB np mn ar ln fi r p = true
    · rw [if_pos ⟨hp, Or.inl h1⟩, if_pos ⟨hp, Or.inl h2⟩]; exact Or.inl rfl
    · rw [if_neg (fun h => hp h.1), if_neg (fun h => hp h.1)]; exact Or.inr ⟨h1, h2⟩
theorem spG_d {np mn : Nat} {ar : Nat → Nat → Int32} {ln : Nat → Nat} {fi : Int32} {r : Nat} : ∀ (n p : Nat) {q q' : Int32 × Int32}, (q = q' ∨ (q.1 = 0 ∧ q'.1 = 0)) → spG np mn ar ln fi r n p q = spG np mn ar ln fi r n p q' ∨ ((spG np mn ar ln fi r n p q).1 = 0 ∧ (spG np mn ar ln fi r n p q').1 = 0)
  | 0, p, q, q', h => stS_d h
  | n + 1, p, q, q', h => by
    show (if p = 0 then _ else _) = (if p = 0 then _ else _) ∨ ((if p = 0 then _ else _ : Int32 × Int32).1 = 0 ∧ (if p = 0 then _ else _ : Int32 × Int32).1 = 0)
    by_cases hp : p = 0
    · rw [if_pos hp, if_pos hp]; exact stS_d h
    · rw [if_neg hp, if_neg hp]; exact spG_d n _ (stS_d h)
def PS (np mn : Nat) (ck : Int32) (ar : Nat → Nat → Int32) (ln : Nat → Nat) (k x : Nat) : Bool := psF np mn ck ar ln (nI (2 ^ (mn - 1 - k)) ||| nI x) (ln k) mn && decide (¬ (spG np mn ar ln (nI (2 ^ (mn - 1 - k))) x x x (0, 0)).1 = 0)
theorem PS_f1 {np mn : Nat} {ck : Int32} {ar : Nat → Nat → Int32} {ln : Nat → Nat} {k x : Nat} (h : psF np mn ck ar ln (nI (2 ^ (mn - 1 - k)) ||| nI x) (ln k) mn = false) : PS np mn ck ar ln k x = false := by unfold PS; rw [h]; rfl
theorem PS_f2 {np mn : Nat} {ck d : Int32} {ar : Nat → Nat → Int32} {ln : Nat → Nat} {k x : Nat} (h : (spG np mn ar ln (nI (2 ^ (mn - 1 - k))) x x x (0, d)).1 = 0) : PS np mn ck ar ln k x = false := by
  have h9 : (spG np mn ar ln (nI (2 ^ (mn - 1 - k))) x x x (0, 0)).1 = 0 := by
    rcases spG_d (np := np) (mn := mn) (ar := ar) (ln := ln) (fi := nI (2 ^ (mn - 1 - k))) (r := x) x x (q := (0, d)) (q' := (0, 0)) (Or.inr ⟨rfl, rfl⟩) with e | ⟨-, e⟩
    · rw [← e]; exact h
    · exact e
  unfold PS
  rw [decide_eq_false (not_not_intro h9), Bool.and_false]
theorem PS_t {np mn : Nat} {ck d : Int32} {ar : Nat → Nat → Int32} {ln : Nat → Nat} {k x : Nat} (h1 : psF np mn ck ar ln (nI (2 ^ (mn - 1 - k)) ||| nI x) (ln k) mn = true) (h : ¬ (spG np mn ar ln (nI (2 ^ (mn - 1 - k))) x x x (0, d)).1 = 0) : PS np mn ck ar ln k x = true ∧ spG np mn ar ln (nI (2 ^ (mn - 1 - k))) x x x (0, d) = spG np mn ar ln (nI (2 ^ (mn - 1 - k))) x x x (0, 0) := by
  rcases spG_d (np := np) (mn := mn) (ar := ar) (ln := ln) (fi := nI (2 ^ (mn - 1 - k))) (r := x) x x (q := (0, d)) (q' := (0, 0)) (Or.inr ⟨rfl, rfl⟩) with e | ⟨e, -⟩
  · refine ⟨?_, e⟩
    unfold PS
    rw [h1, decide_eq_true (by rw [← e]; exact h)]
    rfl
  · exact absurd e h
/-- what 'make' answers and leaves -/
def mkPost (G : GG) (am : Nat → Nat) (sc : Nat → Int32) (np nm mn : Nat) (ln : Nat → Nat) (A : Nat → Nat → Int32) (f : Wo) (v9 : Option Value) (f' : Wo) : Prop :=
  (v9 = some (.int (-1)) ∧ (∀ k x, k < mn → 0 < x → x < 2 ^ (mn - 1 - k) → PS np mn (sc 3) A ln k x = false) ∧ (∃ a b, RM G am (va_up (va_up (va_up (va_up sc 7 0) 4 (nI mn)) 5 a) 6 b) A f') ∧ FrM am f f') ∨
  (∃ k x S, k < mn ∧ 0 < x ∧ x < 2 ^ (mn - 1 - k) ∧ PS np mn (sc 3) A ln k x = true ∧ (∀ k' y, k' < k → 0 < y → y < 2 ^ (mn - 1 - k') → PS np mn (sc 3) A ln k' y = false) ∧ (∀ y, x < y → y < 2 ^ (mn - 1 - k) → PS np mn (sc 3) A ln k y = false) ∧ S = spG np mn A ln (nI (2 ^ (mn - 1 - k))) x x x (0, 0) ∧ v9 = some (.int (nI nm)) ∧ RM G am (va_up (va_up (va_up (va_up (va_up sc 7 0) 4 (nI mn)) 5 S.1) 6 S.2) 2 (nI nm + 1)) (mkA np mn nm ln (nI (2 ^ (mn - 1 - k)) ||| nI x) (hdA nm (plI mn S.1 ln (A 7) mn) (plI mn ((nI (2 ^ (mn - 1 - k)) ||| nI x) &&& (S.1 ^^^ (-1))) ln (A 7) mn) S.2 (sc 3) A) mn) f' ∧ FrM am f f')
theorem va_up56' (sc : Nat → Int32) (a b a' b' : Int32) : va_up (va_up (va_up (va_up sc 5 a) 6 b) 5 a') 6 b' = va_up (va_up sc 5 a') 6 b' := by
  funext j
  simp only [va_up]
  by_cases h5 : j = 5
  · simp [h5]
  · by_cases h6 : j = 6
    · simp [h6]
    · simp [h5, h6]
theorem hinX6_make_X6 : ∀ w ∈ wsX60, w ∈ wsX6_make := by decide +kernel
set_option maxHeartbeats 4000000 in
set_option maxRecDepth 100000 in
theorem c_X6_make (l : Launch) (G : GG) (f : Wo) (am : Nat → Nat) (sc : Nat → Int32) (ar : Nat → Nat → Int32) (hR : RM G am sc ar f) (np : Nat) (hnp : sc 0 = nI np) (hp18 : np ≤ 18) (nt : Nat) (hnt : sc 1 = nI nt) (ht100 : nt ≤ 100) (nm : Nat) (hnm2 : sc 2 = nI nm) (hm600 : nm < 600) (hq18 : (qsL (ar 9) nt).length ≤ 18) (hmt : ∀ t, t < nt → ∀ k, np ≤ k → k < 18 → hsI (ar 7 t) (nI k) = false) (hzt : ∀ t, t < nt → ¬ szI (ar 7 t) = 0) : Ct l yX6_make wsX6_make 5 148 G [.ref (am 0)] f (mkPost G am sc np nm ((qsL (ar 9) nt).length) (lnQ (qsL (ar 9) nt)) (va_up ar 16 (lnF (qsL (ar 9) nt) (ar 16))) f) 0 0 := by
  refine Ct.of (cc := cX6_make) (maxL := 4) (ret := (some .int)) (by decide) rfl (Nat.le_of_ble_eq_true rfl) (lv := [(0, _)]) rfl (by simp [Value.category]) ?_
  intro K X hL hG hr hnm
  subst hL; subst hG
  have hF : FrM am f f := FrM.rf
  obtain ⟨f0, hf0⟩ : ∃ z, z = f := ⟨_, rfl⟩
  have hln0 : ∀ i, i < (qsL (ar 9) nt).length → (va_up ar 16 (lnF (qsL (ar 9) nt) (ar 16))) 16 i = nI (lnQ (qsL (ar 9) nt) i) ∧ lnQ (qsL (ar 9) nt) i < 100 := fun i hi => ⟨by rw [va_up_self]; exact lnF_at hi, Nat.lt_of_lt_of_le (lnQ_in hi).1 ht100⟩
  have hmem0 : ∀ i, i < (qsL (ar 9) nt).length → ∀ k, np ≤ k → k < 18 → hsI ((va_up ar 16 (lnF (qsL (ar 9) nt) (ar 16))) 7 (lnQ (qsL (ar 9) nt) i)) (nI k) = false := fun i hi k h1 h2 => hmt (lnQ (qsL (ar 9) nt) i) (lnQ_in hi).1 k h1 h2
  have hz0 : ∀ i, i < (qsL (ar 9) nt).length → ¬ szI ((va_up ar 16 (lnF (qsL (ar 9) nt) (ar 16))) 7 (lnQ (qsL (ar 9) nt) i)) = 0 := fun i hi => hzt (lnQ (qsL (ar 9) nt) i) (lnQ_in hi).1
  refine V_aload_n X rfl dX6_make_0 ?_
  refine V_iconst X (v := 0) (by decide) dX6_make_1 ?_
  refine V_mput X hR hF 7 23 (by decide) hinX6_make_X6 rfl (by decide +kernel) rfl rfl rfl dX6_make_2 (fun f hR hF => ?_)
  refine V_aload_n X rfl dX6_make_5 ?_
  refine V_callV (kc' := 0) (ks' := 0) X (rest := _) (c_X6_lines _ _ _ am _ _ hR nt hnt ht100 hq18) hR.1 rfl gX6_make_X6_lines rfl hdv_X6_lines (Nat.le_of_ble_eq_true rfl) (Nat.le_of_ble_eq_true rfl) rfl (Nat.le_of_ble_eq_true rfl) (by omega) (by omega) dX6_make_6 (fun r f1 hq => ?_)
  obtain ⟨rfl, hR, hF1⟩ := hq
  have hF := hF.trans hF1
  refine V_iconst X (v := 0) (by decide) dX6_make_9 ?_
  refine V_istore_n X (lv' := [(1, _), (0, _)]) (by decide) rfl dX6_make_10 ?_
  refine V.lvs (lv' := [(0, _), (1, _)]) rfl ?_
  rw [← hf0] at hF
  revert hR hln0 hmem0 hz0 hr hq18
  generalize va_up ar 16 (lnF (qsL (ar 9) nt) (ar 16)) = A
  generalize lnQ (qsL (ar 9) nt) = ln
  generalize (qsL (ar 9) nt).length = mn
  intro hq18 hr hln hmem hz9 hR
  have hm18 : mn ≤ 18 := hq18
  have LO : ∀ (n k : Nat), mn - k = n → k ≤ mn → (∀ k' y, k' < k → 0 < y → y < 2 ^ (mn - 1 - k') → PS np mn (sc 3) A ln k' y = false) → ∀ (a b : Int32) (fw : Wo), RM (kG K) am (va_up (va_up (va_up (va_up sc 7 0) 4 (nI mn)) 5 a) 6 b) A fw → FrM am f0 fw → V K fw 0 0 11 [(0, .ref (am 0)), (1, .int (nI k))] [] := by
    intro n
    induction n using Nat.strongRecOn with
    | ind n ihk =>
      intro k hn hkm hE a b f hR hF
      refine V_iload_n X rfl dX6_make_11 ?_
      refine V_aload_n X rfl dX6_make_12 ?_
      refine V_mget X hR (v := .int (nI mn)) 19 (by decide) hinX6_make_X6 (congrArg (fun z => some (Value.int z)) (rfl)) (by decide +kernel) rfl dX6_make_13 ?_
      refine V_icmp_ge X (tgt := 75) (by decide) dX6_make_16 (fun hc16 => ?_) (fun hc16 => ?_)
      · have hi18 := lim_ge (N := mn) rfl hc16 hkm (by omega)
        refine V_iconst X (v := (-1)) (by decide) dX6_make_75 ?_
        exact V_iret X hr (Or.inl ⟨rfl, fun k' y h1 h2 h3 => hE k' y (by omega) h2 h3, ⟨a, b, hR⟩, by rw [← hf0]; exact hF⟩) dX6_make_76
      · have hk := lim_lt (N := mn) rfl hc16 hkm (by omega)
        obtain ⟨hl1, hl2⟩ := hln k hk
        have LI : ∀ (m x : Nat), x = m → x < 2 ^ (mn - 1 - k) → (∀ y, x < y → y < 2 ^ (mn - 1 - k) → PS np mn (sc 3) A ln k y = false) → ∀ (a b : Int32) (fw : Wo), RM (kG K) am (va_up (va_up (va_up (va_up sc 7 0) 4 (nI mn)) 5 a) 6 b) A fw → FrM am f0 fw → V K fw 0 0 34 [(0, .ref (am 0)), (1, .int (nI k)), (2, .int (nI (2 ^ (mn - 1 - k)))), (3, .int (nI x))] [] := by
          intro m
          induction m using Nat.strongRecOn with
          | ind m ihx =>
            intro x hxm hxe hL a b f hR hF
            have hx31 : x < 2 ^ 31 := Nat.lt_of_lt_of_le hxe (Nat.pow_le_pow_right (by decide) (by omega))
            refine V_iload_n X rfl dX6_make_34 ?_
            refine V_if_le X (tgt := 69) (by decide) dX6_make_35 (fun hc35 => ?_) (fun hc35 => ?_)
            · have hx0 : x = 0 := by
                have h9 := (nI_leI (a := x) (b := 0) hx31 (by decide)).mp hc35
                omega
              refine V_iinc X (lv' := [(1, _), (0, _), (2, _), (3, _)]) (v := nI (k + 1)) rfl (nI_1 _) (by decide) rfl dX6_make_69 ?_
              refine V_goto X (tgt := 11) (by decide) dX6_make_72 ?_
              refine V.lvs (lv' := [(0, _), (1, _)]) rfl ?_
              exact ihk (mn - (k + 1)) (by omega) (k + 1) rfl (by omega) (fun k' y h1 h2 h3 => (Nat.lt_or_ge k' k).elim (fun h => hE k' y h h2 h3) (fun h => by have e9 : k' = k := (by omega); subst e9; exact hL y (by omega) h3)) a b f hR hF
            · have hx0 : 0 < x := by
                rcases Nat.eq_zero_or_pos x with e9 | e9
                · exact absurd (by rw [e9]; decide) hc35
                · exact e9
              have J55 : ∀ (fw : Wo) (a b : Int32), (a, b) = spG np mn A ln (nI (2 ^ (mn - 1 - k))) x x x (0, 0) → PS np mn (sc 3) A ln k x = true → RM (kG K) am (va_up (va_up (va_up (va_up sc 7 0) 4 (nI mn)) 5 a) 6 b) A fw → FrM am f0 fw → V K fw 0 0 55 [(0, .ref (am 0)), (1, .int (nI k)), (2, .int (nI (2 ^ (mn - 1 - k)))), (3, .int (nI x))] [] := by
                intro f a b hS hP hR hF
                refine V_aload_n X rfl dX6_make_55 ?_
                refine V_iload_n X rfl dX6_make_56 ?_
                refine V_iload_n X rfl dX6_make_57 ?_
                refine V_ior X dX6_make_58 ?_
                refine V_callV (kc' := 0) (ks' := 0) X (rest := _) (c_X6_makes _ _ _ am _ _ hR np hnp hp18 mn rfl hm18 ln hln nm hnm2 hm600 _) hR.1 rfl gX6_make_X6_makes rfl hdv_X6_makes (Nat.le_of_ble_eq_true rfl) (Nat.le_of_ble_eq_true rfl) rfl (Nat.le_of_ble_eq_true rfl) (by omega) (by omega) dX6_make_59 (fun r f1 hq => ?_)
                obtain ⟨rfl, hR, hF1⟩ := hq
                have hF := hF.trans hF1
                exact V_iret X hr (Or.inr ⟨k, x, (a, b), hk, hx0, hxe, hP, hE, hL, hS, rfl, hR, by rw [← hf0]; exact hF⟩) dX6_make_62
              refine V_aload_n X rfl dX6_make_38 ?_
              refine V_iload_n X rfl dX6_make_39 ?_
              refine V_iload_n X rfl dX6_make_40 ?_
              refine V_ior X dX6_make_41 ?_
              refine V_iload_n X rfl dX6_make_42 ?_
              refine V_aload_n X rfl dX6_make_43 ?_
              refine V_mget X hR (v := .ref (am 16)) 20 (by decide) hinX6_make_X6 (rfl) (by decide +kernel) rfl dX6_make_44 ?_
              refine V_iload_n X rfl dX6_make_47 ?_
              refine V_mald X hR 16 (k) 18 (by decide) rfl (by omega) (by decide) (w := nI (ln k)) (hl1) dX6_make_48 ?_
              cases hps : psF np mn (sc 3) A ln (nI (2 ^ (mn - 1 - k)) ||| nI x) (ln k) mn
              · refine V_callVp X (rest := _) (c_X6_isPossible_f _ _ _ am _ _ hR np hnp hp18 mn rfl hm18 ln hln hmem (nI (2 ^ (mn - 1 - k)) ||| nI x) (nI (2 ^ (mn - 1 - k))) (ln k) hl2 (hz9 k hk) hz9 hps) hR.1 rfl gX6_make_X6_isPossible rfl hdv_X6_isPossible (Nat.le_of_ble_eq_true rfl) (Nat.le_of_ble_eq_true rfl) rfl (Nat.le_of_ble_eq_true rfl) dX6_make_49 ?_
                refine V_if_eq X (tgt := 63) (by decide) dX6_make_52 (fun hc52 => ?_) (fun hc52 => absurd hc52 (by decide))
                refine V_iinc X (lv' := [(3, _), (0, _), (1, _), (2, _)]) (v := nI (x - 1)) rfl (by rw [show Int32.ofInt (-1) = -1 from rfl, sb_m1 hx0]) (by decide) rfl dX6_make_63 ?_
                refine V_goto X (tgt := 34) (by decide) dX6_make_66 ?_
                refine V.lvs (lv' := [(0, _), (1, _), (2, _), (3, _)]) rfl ?_
                exact ihx (x - 1) (by omega) (x - 1) rfl (by omega) (fun y h1 h2 => (Nat.lt_or_ge x y).elim (fun h => hL y h h2) (fun h => by have e9 : y = x := (by omega); rw [e9]; exact PS_f1 hps)) _ _ _ hR hF
              · refine V_callV (kc' := 0) (ks' := 0) X (rest := _) (c_X6_isPossible_t _ _ _ am _ _ hR np hnp hp18 mn rfl hm18 ln hln hmem (nI (2 ^ (mn - 1 - k)) ||| nI x) (nI (2 ^ (mn - 1 - k))) x (fi_rest (by omega) hxe) hx31 (ln k) hl2 (hz9 k hk) hz9 hps) hR.1 rfl gX6_make_X6_isPossible rfl hdv_X6_isPossible (Nat.le_of_ble_eq_true rfl) (Nat.le_of_ble_eq_true rfl) rfl (Nat.le_of_ble_eq_true rfl) (by omega) (by omega) dX6_make_49 (fun r f1 hq => ?_)
                obtain ⟨rfl, hR, hF1⟩ := hq
                have hF := hF.trans hF1
                refine V_if_eq X (tgt := 63) (by decide) dX6_make_52 (fun hc52 => ?_) (fun hc52 => ?_)
                · have hR := va_up56' (va_up (va_up sc 7 0) 4 (nI mn)) a b _ _ ▸ hR
                  refine V_iinc X (lv' := [(3, _), (0, _), (1, _), (2, _)]) (v := nI (x - 1)) rfl (by rw [show Int32.ofInt (-1) = -1 from rfl, sb_m1 hx0]) (by decide) rfl dX6_make_63 ?_
                  refine V_goto X (tgt := 34) (by decide) dX6_make_66 ?_
                  refine V.lvs (lv' := [(0, _), (1, _), (2, _), (3, _)]) rfl ?_
                  exact ihx (x - 1) (by omega) (x - 1) rfl (by omega) (fun y h1 h2 => (Nat.lt_or_ge x y).elim (fun h => hL y h h2) (fun h => by have e9 : y = x := (by omega); rw [e9]; exact PS_f2 (d := b) (Classical.not_not.mp (of_decide_eq_false (bI_eq0 hc52))))) _ _ _ hR hF
                · exact J55 _ _ _ (PS_t (d := b) hps (of_decide_eq_true (bI_ne0 hc52))).2 (PS_t (d := b) hps (of_decide_eq_true (bI_ne0 hc52))).1 (by rw [← va_up56' (va_up (va_up sc 7 0) 4 (nI mn)) a b]; exact hR) hF
        refine V_iconst X (v := 1) (by decide) dX6_make_19 ?_
        refine V_aload_n X rfl dX6_make_20 ?_
        refine V_mget X hR (v := .int (nI mn)) 19 (by decide) hinX6_make_X6 (congrArg (fun z => some (Value.int z)) (rfl)) (by decide +kernel) rfl dX6_make_21 ?_
        refine V_iconst X (v := 1) (by decide) dX6_make_24 ?_
        refine V_isub X dX6_make_25 ?_
        refine V_iload_n X rfl dX6_make_26 ?_
        refine V_isub X dX6_make_27 ?_
        refine V.top (y := nI (mn - 1 - k)) (nI_m1i hk) ?_
        refine V_ishl X dX6_make_28 ?_
        refine V.top (y := nI (2 ^ (mn - 1 - k))) (nI_shl (by omega)) ?_
        refine V_istore_n X (lv' := [(2, _), (0, _), (1, _)]) (by decide) rfl dX6_make_29 ?_
        refine V_iload_n X rfl dX6_make_30 ?_
        refine V_iconst X (v := 1) (by decide) dX6_make_31 ?_
        refine V_isub X dX6_make_32 ?_
        refine V.top (y := nI (2 ^ (mn - 1 - k) - 1)) (by rw [show (1 : Int32) = nI 1 from rfl, pk_sub (Nat.one_le_two_pow)]) ?_
        refine V_istore_n X (lv' := [(3, _), (2, _), (0, _), (1, _)]) (by decide) rfl dX6_make_33 ?_
        refine V.lvs (lv' := [(0, _), (1, _), (2, _), (3, _)]) rfl ?_
        exact LI (2 ^ (mn - 1 - k) - 1) _ rfl (by have := Nat.one_le_two_pow (n := mn - 1 - k); omega) (fun y h1 h2 => absurd h2 (by omega)) a b f hR hF
  exact LO mn 0 (by omega) (by omega) (fun k' y h => absurd h (Nat.not_lt_zero _)) (sc 5) (sc 6) f1 (by rw [show va_up (va_up (va_up (va_up sc 7 0) 4 (nI mn)) 5 (sc 5)) 6 (sc 6) = va_up (va_up sc 7 0) 4 (nI mn) from by rw [show va_up (va_up (va_up sc 7 0) 4 (nI mn)) 5 (sc 5) = va_up (va_up sc 7 0) 4 (nI mn) from va_up_id (va_up (va_up sc 7 0) 4 (nI mn)) 5]; exact va_up_id (va_up (va_up sc 7 0) 4 (nI mn)) 6]; exact hR) hF
