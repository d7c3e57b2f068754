/-! ===== the model's search ===== -/
theorem q_psF {np mn : Nat} {ck : Int32} {ar : Nat → Nat → Int32} {ln : Nat → Nat} {st : Int32} {pt : Nat} : ∀ n, psF np mn ck ar ln st pt n = true ↔ (szI st ≤ 6 ∧ szI (plI mn st ln (ar 7) mn) = 6) ∧ ∀ i, i < n → okF np mn ck ar ln st pt i = true
  | 0 => by
    show (decide (szI st ≤ 6) && decide (szI (plI mn st ln (ar 7) mn) = 6)) = true ↔ _
    rw [Bool.and_eq_true, decide_eq_true_eq, decide_eq_true_eq]
    exact ⟨fun h => ⟨h, fun i hi => absurd hi (Nat.not_lt_zero i)⟩, fun h => h.1⟩
  | n + 1 => by
    show (psF np mn ck ar ln st pt n && okF np mn ck ar ln st pt n) = true ↔ _
    rw [Bool.and_eq_true, q_psF n]
    constructor
    · rintro ⟨⟨h1, h2⟩, h3⟩
      refine ⟨h1, fun i hi => ?_⟩
      by_cases hn : i < n
      · exact h2 i hn
      · rw [show i = n by omega]; exact h3
    · rintro ⟨h1, h2⟩
      exact ⟨⟨h1, fun i hi => h2 i (Nat.lt_succ_of_lt hi)⟩, h2 n (Nat.lt_succ_self n)⟩
theorem cntN_cg {p q : Nat → Bool} : ∀ {n : Nat}, (∀ k, k < n → p k = q k) → cntN p n = cntN q n
  | 0, _ => rfl
  | n + 1, h => by
    show cntN p n + (if p n = true then 1 else 0) = cntN q n + (if q n = true then 1 else 0)
    rw [cntN_cg (fun k hk => h k (Nat.lt_succ_of_lt hk)), h n (Nat.lt_succ_self n)]
theorem q_bits : ∀ (L : List Nat) (x : Nat), x < 2 ^ L.length → cntN x.testBit L.length = (q_sel L x).length
  | [], _, _ => rfl
  | a :: L, x, h => by
    show cntN x.testBit L.length + (if x.testBit L.length = true then 1 else 0) = _
    rcases q_split h with hb | ⟨y, rfl, hy⟩
    · rw [q_sel_l hb, ← q_bits L x hb, Nat.testBit_lt_two_pow hb]
      rfl
    · rw [q_sel_h hy, List.length_cons, ← q_bits L y hy, q_tb hy, decide_eq_true rfl, Bool.true_or, if_pos rfl]
      rw [cntN_cg (q := y.testBit) fun k hk => by rw [q_tb hy, decide_eq_false (by omega), Bool.false_or]]
theorem q_bitsJ {Q : List Nat} {X : Nat} (hX : X < 2 ^ Q.length) (hQ : Q.length ≤ 18) : (JQ (nI X) 18).length = (q_sel Q X).length := by
  rw [q_cnt, cntN_cg (q := X.testBit) (fun k hk => by rw [hsI_gb _ (by omega), gb_nI _ (by omega)]), ← q_bits Q X hX]
  exact cntN_cut hQ fun k h1 h2 => Nat.testBit_lt_two_pow (Nat.lt_of_lt_of_le hX (Nat.pow_le_pow_right (by decide) h1))
theorem q_ln_at (pre : List Nat) (hd : Nat) (L : List Nat) : lnQ (pre ++ hd :: L) pre.length = hd := by
  unfold lnQ
  rw [List.getD, List.getElem?_append_right (Nat.le_refl _), Nat.sub_self]
  rfl
section SMm
variable {c : Nat} {fi : Nat → Nat → Int32} {z : CZ} {sc : Nat → Int32} {ar : Nat → Nat → Int32}
theorem SM.mn (h : SM c fi z sc ar) {t : Nat} (ht : t < zN z 1) : mnI (zN z 0) (ar 7 t) (ar 1) = mnC fi (zL z (11, t)) := by
  have hp := h.pt ht
  have e1 : q_sL (ar 1) (JQ (fi 5 t) 18) = q_sL (fi 1) (JQ (fi 5 t) 18) := q_sL_cg fun k hk => by
    rw [q_bw_J (h.bw ht) h.np (by decide)] at hk
    exact ((h.pl (JQ_in hk)).1).symm
  unfold mnI mnC
  rw [if_neg (by have := hp.2.2.2.2.1.1; omega), ← hp.1, q_smI, ← q_bw_J (h.bw ht) h.np (show 18 ≤ 32 by decide), e1, q_szI, q_smC, h.J ht]
theorem SM.ft (h : SM c fi z sc ar) {t u : Nat} (ht : t < zN z 1) (hu : u < zN z 1) : ftI (sc 3) (mnI (zN z 0) (ar 7 t) (ar 1)) (mnI (zN z 0) (ar 7 u) (ar 1)) (ar 8 t) (ar 8 u) = ftC fi z (nI c) u t := by
  unfold ftI ftC
  rw [h.mn ht, h.mn hu, q_ab_sub, h.1.2.2.2.1, ← (h.pt ht).2.1, ← (h.pt hu).2.1, Bool.and_comm]
  rfl
theorem SM.q_PS (h : SM c fi z sc ar) {Q pre L : List Nat} {hd : Nat} (hQ : Q = pre ++ hd :: L) (hQQ : Q = q_Q fi (zN z 1)) {x : Nat} (hx : x < 2 ^ L.length) : PS (zN z 0) Q.length (sc 3) ar (lnQ Q) pre.length x = q_ok c fi z Q (hd :: q_sel L x) := by
  have hQ18 : Q.length ≤ 18 := by rw [hQQ]; exact h.Q18
  have hQd : Q.Pairwise (q_dj (fi 5)) := by rw [hQQ]; exact h.Qdj
  have hQn : Q.Nodup := by rw [hQQ]; exact q_Q_nd _
  have hQm : ∀ t ∈ Q, t < zN z 1 := fun t ht => by rw [hQQ] at ht; exact (q_Q_m.mp ht).1
  have hl : Q.length = pre.length + (L.length + 1) := by rw [hQ, List.length_append, List.length_cons]
  have he : Q.length - 1 - pre.length = L.length := by omega
  have hX : 2 ^ L.length + x < 2 ^ Q.length := by
    have h8 : 2 ^ (L.length + 1) ≤ 2 ^ Q.length := Nat.pow_le_pow_right (by decide) (by omega)
    rw [Nat.pow_succ] at h8
    omega
  have e1 : nI (2 ^ L.length) ||| nI x = nI (2 ^ L.length + x) := by
    rw [nI_or]
    congr 1
    exact Nat.eq_of_testBit_eq fun i => by
      rw [Nat.testBit_or, q_tb hx, Nat.testBit_two_pow, show decide (L.length = i) = decide (i = L.length) by rw [decide_eq_decide]; exact eq_comm]
  have s1 : q_sel Q (2 ^ L.length + x) = hd :: q_sel L x := by
    rw [hQ, q_sel_pre (L := hd :: L) (by rw [List.length_cons, Nat.pow_succ]; omega), q_sel_h hx]
  have u1 : (hd :: q_sel L x).Sublist Q := by rw [← s1]; exact q_sel_sub _ _
  have d1 := hQd.sublist u1
  have m1 : ∀ t ∈ hd :: q_sel L x, t < zN z 1 := fun t ht => hQm t (u1.subset ht)
  have hdm : hd < zN z 1 := m1 hd List.mem_cons_self
  have hlen := h.lenU d1 m1
  have hpl : plI Q.length (nI (2 ^ L.length + x)) (lnQ Q) (ar 7) Q.length = q_U (fi 5) (hd :: q_sel L x) := by rw [q_plI (by omega), s1, h.U7 m1]
  have hps : psF (zN z 0) Q.length (sc 3) ar (lnQ Q) (nI (2 ^ L.length) ||| nI x) (lnQ Q pre.length) Q.length = true ↔ q_sN (q_ln z) (hd :: q_sel L x) = 6 ∧ ∀ t ∈ hd :: q_sel L x, ftC fi z (nI c) t hd = true := by
    rw [q_psF, e1, hpl, show (6 : Int32) = nI 6 from rfl, q_sz3 (by decide), hlen]
    have hpt : lnQ Q pre.length = hd := by rw [hQ]; exact q_ln_at pre hd L
    constructor
    · rintro ⟨⟨-, h2⟩, h3⟩
      refine ⟨h2, fun t ht => ?_⟩
      rw [← s1] at ht
      obtain ⟨i, i1, i2, i3⟩ := (q_sel_mem _ _ Q).mp ht
      have h4 := h3 i i1
      unfold okF at h4
      rw [hsI_gb _ (by omega), gb_nI _ (by omega), i2, hpt] at h4
      have h5 : lnQ Q i = t := i3
      rw [h5, h.ft hdm (m1 t (by rw [← s1]; exact ht))] at h4
      exact h4
    · rintro ⟨h2, h3⟩
      refine ⟨⟨?_, h2⟩, fun i hi => ?_⟩
      · rw [q_szI, q_bitsJ hX hQ18, s1]
        have h4 := q_sN_ge (g := q_ln z) (xs := hd :: q_sel L x) (fun t ht => (h.pt (m1 t ht)).2.2.2.2.1.1)
        exact nI_le (by omega) (by decide)
      · unfold okF
        rw [hsI_gb _ (by omega), gb_nI _ (by omega), hpt]
        cases hb : (2 ^ L.length + x).testBit (Q.length - 1 - i) with
        | false => rfl
        | true =>
          have hm : lnQ Q i ∈ hd :: q_sel L x := by
            rw [← s1]
            exact (q_sel_mem _ _ Q).mpr ⟨i, hi, hb, rfl⟩
          rw [h.ft hdm (m1 _ hm), h3 _ hm]
          rfl
  have hsp := h.spl hQ hQd hQn hQm hQ18 hx
  unfold PS
  rw [he, hsp]
  have hok := q_ok_t (c := c) (fi := fi) (z := z) (Q := Q) (R := q_sel L x) (h := hd)
  cases ha : psF (zN z 0) Q.length (sc 3) ar (lnQ Q) (nI (2 ^ L.length) ||| nI x) (lnQ Q pre.length) Q.length with
  | false =>
    rw [Bool.false_and]
    cases ho : q_ok c fi z Q (hd :: q_sel L x) with
    | false => rfl
    | true =>
      obtain ⟨o1, o2, o3⟩ := hok.mp ho
      rw [hps.mpr ⟨o1, o2⟩] at ha
      cases ha
  | true =>
    obtain ⟨o1, o2⟩ := hps.mp ha
    rw [Bool.true_and]
    by_cases h0 : (q_sp fi z Q hd (q_sel L x)).1 = 0
    · rw [decide_eq_false (not_not_intro h0)]
      cases ho : q_ok c fi z Q (hd :: q_sel L x) with
      | false => rfl
      | true => exact absurd h0 (hok.mp ho).2.2
    · rw [decide_eq_true h0]
      exact (hok.mpr ⟨o1, o2, h0⟩).symm
theorem SM.ok0 (h : SM c fi z sc ar) {Q : List Nat} {hd : Nat} (hd1 : hd < zN z 1) : q_ok c fi z Q [hd] = false := by
  cases ho : q_ok c fi z Q [hd] with
  | false => rfl
  | true =>
    have h1 := (q_ok_t.mp ho).1
    have h2 := (h.pt hd1).2.2.2.2.1.2
    have h3 : q_ln z hd + 0 = 6 := h1
    unfold q_ln at h3
    omega
theorem q_MS_none {ok : List Nat → Bool} {Q : List Nat} (h : ∀ pre hd L, Q = pre ++ hd :: L → q_SR ok L [hd] = none) : ∀ (L pre : List Nat), Q = pre ++ L → q_MS ok L = none
  | [], _, _ => rfl
  | a :: L, pre, e => by
    rw [q_MS_n (h pre a L e)]
    exact q_MS_none h L (pre ++ [a]) (by rw [e, q_sc])
theorem q_MS_at {ok : List Nat → Bool} {hd : Nat} {L T : List Nat} (hT : q_SR ok L [hd] = some T) : ∀ pre : List Nat, (∀ p1 h1 L1, pre ++ hd :: L = p1 ++ h1 :: L1 → p1.length < pre.length → q_SR ok L1 [h1] = none) → q_MS ok (pre ++ hd :: L) = some T
  | [], _ => q_MS_s hT
  | a :: p, h => by
    rw [List.cons_append, q_MS_n (h [] a (p ++ hd :: L) rfl (Nat.succ_pos _))]
    exact q_MS_at hT p fun p1 h1 L1 e hlt => h (a :: p1) h1 L1 (by rw [List.cons_append, List.cons_append, e]) (Nat.succ_lt_succ hlt)
/-- the search's two ends -/
theorem SM.q_none (h : SM c fi z sc ar) {Q : List Nat} (hQQ : Q = q_Q fi (zN z 1)) (hn : ∀ k x, k < Q.length → 0 < x → x < 2 ^ (Q.length - 1 - k) → PS (zN z 0) Q.length (sc 3) ar (lnQ Q) k x = false) : q_MS (q_ok c fi z Q) Q = none := by
  refine q_MS_none (Q := Q) (fun pre hd L e => ?_) Q [] rfl
  have hl : Q.length = pre.length + (L.length + 1) := by rw [e, List.length_append, List.length_cons]
  refine (q_SR_none L [hd]).mpr fun x hx => ?_
  show q_ok c fi z Q (hd :: q_sel L x) = false
  by_cases h0 : x = 0
  · rw [h0, q_sel_0]
    exact h.ok0 (by
      have : hd ∈ Q := by rw [e]; exact List.mem_append_right _ List.mem_cons_self
      rw [hQQ] at this
      exact (q_Q_m.mp this).1)
  · rw [← h.q_PS e hQQ hx]
    exact hn pre.length x (by omega) (by omega) (by rw [show Q.length - 1 - pre.length = L.length by omega]; exact hx)
theorem SM.q_some (h : SM c fi z sc ar) {Q : List Nat} (hQQ : Q = q_Q fi (zN z 1)) {k x : Nat} (hk : k < Q.length) (hx0 : 0 < x) (hx : x < 2 ^ (Q.length - 1 - k)) (ht : PS (zN z 0) Q.length (sc 3) ar (lnQ Q) k x = true) (hn1 : ∀ k' y, k' < k → 0 < y → y < 2 ^ (Q.length - 1 - k') → PS (zN z 0) Q.length (sc 3) ar (lnQ Q) k' y = false) (hn2 : ∀ y, x < y → y < 2 ^ (Q.length - 1 - k) → PS (zN z 0) Q.length (sc 3) ar (lnQ Q) k y = false) : ∃ pre hd L, Q = pre ++ hd :: L ∧ pre.length = k ∧ L.length = Q.length - 1 - k ∧ q_MS (q_ok c fi z Q) Q = some (hd :: q_sel L x) ∧ q_ok c fi z Q (hd :: q_sel L x) = true := by
  have hm : ∀ hd ∈ Q, hd < zN z 1 := fun hd hh => by
    rw [hQQ] at hh
    exact (q_Q_m.mp hh).1
  obtain ⟨pre, hd, L, e, hp⟩ : ∃ pre hd L, Q = pre ++ hd :: L ∧ pre.length = k := ⟨Q.take k, Q[k], Q.drop (k + 1), by rw [← List.drop_eq_getElem_cons hk, List.take_append_drop], by rw [List.length_take]; omega⟩
  have hl : Q.length = pre.length + (L.length + 1) := by rw [e, List.length_append, List.length_cons]
  have hL : L.length = Q.length - 1 - k := by omega
  have hxL : x < 2 ^ L.length := by rw [hL]; exact hx
  have hok : q_ok c fi z Q (hd :: q_sel L x) = true := by rw [← h.q_PS e hQQ hxL, hp]; exact ht
  refine ⟨pre, hd, L, e, hp, hL, ?_, hok⟩
  have hT : q_SR (q_ok c fi z Q) L [hd] = some (hd :: q_sel L x) := q_SR_some L [hd] x hxL hok fun y h1 h2 => by
    show q_ok c fi z Q (hd :: q_sel L y) = false
    rw [← h.q_PS e hQQ h2, hp]
    exact hn2 y h1 (by rw [← hL]; exact h2)
  have h9 := q_MS_at hT pre fun p1 h1 L1 e1 hlt => by
    rw [← e] at e1
    have hl1 : Q.length = p1.length + (L1.length + 1) := by rw [e1, List.length_append, List.length_cons]
    refine (q_SR_none L1 [h1]).mpr fun y hy => ?_
    show q_ok c fi z Q (h1 :: q_sel L1 y) = false
    by_cases h0 : y = 0
    · rw [h0, q_sel_0]
      exact h.ok0 (hm h1 (by rw [e1]; exact List.mem_append_right _ List.mem_cons_self))
    · rw [← h.q_PS e1 hQQ hy]
      exact hn1 p1.length y (by omega) (by omega) (by rw [show Q.length - 1 - p1.length = L1.length by omega]; exact hy)
  rw [← e] at h9
  exact h9
end SMm
