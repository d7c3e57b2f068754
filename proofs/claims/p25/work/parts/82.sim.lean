/-! ===== choosing from a list by bits; the search as a search through lists ===== -/
def q_sel : List Nat → Nat → List Nat
  | [], _ => []
  | a :: L, x => if x.testBit L.length = true then a :: q_sel L x else q_sel L x
theorem q_sel_c (a : Nat) (L : List Nat) (x : Nat) : q_sel (a :: L) x = if x.testBit L.length = true then a :: q_sel L x else q_sel L x := rfl
theorem q_sel_lo : ∀ (L : List Nat) {x y : Nat}, (∀ j, j < L.length → x.testBit j = y.testBit j) → q_sel L x = q_sel L y
  | [], _, _, _ => rfl
  | a :: L, x, y, h => by
    rw [q_sel_c, q_sel_c, h L.length (Nat.lt_succ_self _), q_sel_lo L (fun j hj => h j (Nat.lt_succ_of_lt hj))]
theorem q_tb {e x : Nat} (h : x < 2 ^ e) (i : Nat) : (2 ^ e + x).testBit i = (decide (i = e) || x.testBit i) := by
  by_cases h1 : i < e
  · rw [Nat.testBit_two_pow_add_gt h1, decide_eq_false (by omega), Bool.false_or]
  · by_cases h2 : i = e
    · subst h2
      rw [Nat.testBit_two_pow_add_eq, Nat.testBit_lt_two_pow h]
      simp
    · have h3 : 2 ^ (e + 1) ≤ 2 ^ i := Nat.pow_le_pow_right (by decide) (by omega)
      have h4 : 2 ^ (e + 1) = 2 ^ e + 2 ^ e := by rw [Nat.pow_succ]; omega
      rw [Nat.testBit_lt_two_pow (by omega), Nat.testBit_lt_two_pow (by omega), decide_eq_false h2]
      rfl
theorem q_sel_h {a : Nat} {L : List Nat} {y : Nat} (h : y < 2 ^ L.length) : q_sel (a :: L) (2 ^ L.length + y) = a :: q_sel L y := by
  rw [q_sel_c, q_tb h, decide_eq_true rfl, Bool.true_or, if_pos rfl, q_sel_lo L (y := y) (fun j hj => by rw [q_tb h, decide_eq_false (by omega), Bool.false_or])]
theorem q_sel_l {a : Nat} {L : List Nat} {y : Nat} (h : y < 2 ^ L.length) : q_sel (a :: L) y = q_sel L y := by
  rw [q_sel_c, Nat.testBit_lt_two_pow h, if_neg (by decide)]
theorem q_sel_0 : ∀ L : List Nat, q_sel L 0 = []
  | [] => rfl
  | a :: L => by rw [q_sel_c, Nat.zero_testBit, if_neg (by decide), q_sel_0 L]
theorem q_sel_pre {L : List Nat} {x : Nat} (h : x < 2 ^ L.length) : ∀ pre : List Nat, q_sel (pre ++ L) x = q_sel L x
  | [] => rfl
  | a :: p => by
    rw [List.cons_append, q_sel_c, Nat.testBit_lt_two_pow, if_neg (by decide), q_sel_pre h p]
    refine Nat.lt_of_lt_of_le h (Nat.pow_le_pow_right (by decide) ?_)
    rw [List.length_append]; omega
theorem q_sel_sub : ∀ (L : List Nat) (x : Nat), (q_sel L x).Sublist L
  | [], _ => List.Sublist.refl _
  | a :: L, x => by
    rw [q_sel_c]
    split
    · exact (q_sel_sub L x).cons₂ a
    · exact (q_sel_sub L x).cons a
theorem q_sel_mem (x t : Nat) : ∀ Q : List Nat, t ∈ q_sel Q x ↔ ∃ i, i < Q.length ∧ x.testBit (Q.length - 1 - i) = true ∧ Q.getD i 0 = t
  | [] => ⟨fun h => absurd h List.not_mem_nil, fun ⟨i, h, _⟩ => absurd h (Nat.not_lt_zero i)⟩
  | a :: L => by
    have ih := q_sel_mem x t L
    have e1 : ∀ i, (a :: L).length - 1 - (i + 1) = L.length - 1 - i := fun i => by rw [List.length_cons]; omega
    rw [q_sel_c]
    constructor
    · intro h
      by_cases hb : x.testBit L.length = true
      · rw [if_pos hb] at h
        rcases List.mem_cons.mp h with rfl | h
        · exact ⟨0, Nat.succ_pos _, hb, rfl⟩
        · obtain ⟨i, h1, h2, h3⟩ := ih.mp h
          exact ⟨i + 1, Nat.succ_lt_succ h1, by rw [e1]; exact h2, h3⟩
      · rw [if_neg hb] at h
        obtain ⟨i, h1, h2, h3⟩ := ih.mp h
        exact ⟨i + 1, Nat.succ_lt_succ h1, by rw [e1]; exact h2, h3⟩
    · rintro ⟨i, h1, h2, h3⟩
      cases i with
      | zero =>
        have h2' : x.testBit L.length = true := h2
        have h3' : a = t := h3
        rw [if_pos h2', h3']
        exact List.mem_cons_self
      | succ i =>
        rw [e1] at h2
        have := ih.mpr ⟨i, Nat.lt_of_succ_lt_succ h1, h2, h3⟩
        split
        · exact List.mem_cons_of_mem _ this
        · exact this
def q_SR (ok : List Nat → Bool) : List Nat → List Nat → Option (List Nat)
  | [], S => if ok S = true then some S else none
  | a :: L, S => match q_SR ok L (S ++ [a]) with
    | some T => some T
    | none => q_SR ok L S
theorem q_SR_s {ok : List Nat → Bool} {a : Nat} {L S T : List Nat} (h : q_SR ok L (S ++ [a]) = some T) : q_SR ok (a :: L) S = some T := by
  rw [q_SR, h]
theorem q_SR_n {ok : List Nat → Bool} {a : Nat} {L S : List Nat} (h : q_SR ok L (S ++ [a]) = none) : q_SR ok (a :: L) S = q_SR ok L S := by
  rw [q_SR, h]
theorem q_sc (S : List Nat) (a : Nat) (U : List Nat) : S ++ a :: U = (S ++ [a]) ++ U := by rw [List.append_assoc]; rfl
theorem q_split {n x : Nat} (h : x < 2 ^ (n + 1)) : x < 2 ^ n ∨ ∃ y, x = 2 ^ n + y ∧ y < 2 ^ n := by
  by_cases hb : x < 2 ^ n
  · exact Or.inl hb
  · refine Or.inr ⟨x - 2 ^ n, by omega, ?_⟩
    rw [Nat.pow_succ] at h
    omega
theorem q_SR_none {ok : List Nat → Bool} : ∀ (L S : List Nat), q_SR ok L S = none ↔ ∀ x, x < 2 ^ L.length → ok (S ++ q_sel L x) = false
  | [], S => by
    constructor
    · intro h x _
      rw [q_SR] at h
      rw [show q_sel [] x = [] from rfl, List.append_nil]
      cases ho : ok S with
      | false => rfl
      | true => rw [if_pos ho] at h; cases h
    · intro h
      have := h 0 (by decide)
      rw [show q_sel [] 0 = [] from rfl, List.append_nil] at this
      rw [q_SR, if_neg (by rw [this]; decide)]
  | a :: L, S => by
    constructor
    · intro h x hx
      cases h1 : q_SR ok L (S ++ [a]) with
      | some T => rw [q_SR_s h1] at h; cases h
      | none =>
        rw [q_SR_n h1] at h
        rcases q_split hx with hb | ⟨y, rfl, hy⟩
        · rw [q_sel_l hb]; exact (q_SR_none L S).mp h x hb
        · rw [q_sel_h hy, q_sc]; exact (q_SR_none L (S ++ [a])).mp h1 y hy
    · intro h
      have h1 : q_SR ok L (S ++ [a]) = none := (q_SR_none L (S ++ [a])).mpr fun y hy => by
        have := h (2 ^ L.length + y) (by rw [List.length_cons, Nat.pow_succ]; omega)
        rwa [q_sel_h hy, q_sc] at this
      rw [q_SR_n h1]
      refine (q_SR_none L S).mpr fun y hy => ?_
      have := h y (by rw [List.length_cons, Nat.pow_succ]; omega)
      rwa [q_sel_l hy] at this
theorem q_SR_some {ok : List Nat → Bool} : ∀ (L S : List Nat) (x : Nat), x < 2 ^ L.length → ok (S ++ q_sel L x) = true → (∀ y, x < y → y < 2 ^ L.length → ok (S ++ q_sel L y) = false) → q_SR ok L S = some (S ++ q_sel L x)
  | [], S, x, _, h, _ => by
    rw [show q_sel [] x = [] from rfl, List.append_nil] at h ⊢
    rw [q_SR, if_pos h]
  | a :: L, S, x, hx, h, hy => by
    rcases q_split hx with hb | ⟨y, rfl, hb⟩
    · have h1 : q_SR ok L (S ++ [a]) = none := (q_SR_none L (S ++ [a])).mpr fun y hy2 => by
        have := hy (2 ^ L.length + y) (by omega) (by rw [List.length_cons, Nat.pow_succ]; omega)
        rwa [q_sel_h hy2, q_sc] at this
      rw [q_SR_n h1]
      rw [q_sel_l hb] at h ⊢
      exact q_SR_some L S x hb h fun y a1 a2 => by
        have := hy y a1 (by rw [List.length_cons, Nat.pow_succ]; omega)
        rwa [q_sel_l a2] at this
    · rw [q_sel_h hb, q_sc] at h ⊢
      refine q_SR_s (q_SR_some L (S ++ [a]) y hb h fun y2 a1 a2 => ?_)
      have := hy (2 ^ L.length + y2) (by omega) (by rw [List.length_cons, Nat.pow_succ]; omega)
      rwa [q_sel_h a2, q_sc] at this
theorem q_SR_ok {ok : List Nat → Bool} : ∀ (L S T : List Nat), q_SR ok L S = some T → ok T = true ∧ ∃ U, U.Sublist L ∧ T = S ++ U
  | [], S, T, h => by
    rw [q_SR] at h
    split at h
    · rename_i ho
      cases h
      exact ⟨ho, [], List.Sublist.refl _, (List.append_nil _).symm⟩
    · cases h
  | a :: L, S, T, h => by
    cases h1 : q_SR ok L (S ++ [a]) with
    | some T2 =>
      rw [q_SR_s h1] at h
      cases h
      obtain ⟨h2, U, h3, h4⟩ := q_SR_ok L _ _ h1
      exact ⟨h2, a :: U, h3.cons₂ a, h4.trans (q_sc S a U).symm⟩
    | none =>
      rw [q_SR_n h1] at h
      obtain ⟨h2, U, h3, h4⟩ := q_SR_ok L _ _ h
      exact ⟨h2, U, h3.cons a, h4⟩
theorem q_SR_nil {ok : List Nat → Bool} {L S : List Nat} (h : ∀ U, U.Sublist L → ok (S ++ U) = false) : q_SR ok L S = none := by
  cases h1 : q_SR ok L S with
  | none => rfl
  | some T =>
    obtain ⟨h2, U, h3, h4⟩ := q_SR_ok L S T h1
    rw [h4, h U h3] at h2
    cases h2
theorem q_SR_filter {ok : List Nat → Bool} {f : Nat → Bool} : ∀ (L S : List Nat), (∀ U, U.Sublist L → ok (S ++ U) = true → ∀ u ∈ U, f u = true) → q_SR ok L S = q_SR ok (L.filter f) S
  | [], _, _ => rfl
  | a :: L, S, h => by
    have i1 := q_SR_filter L S (fun U hU => h U (hU.cons a))
    cases hf : f a with
    | true =>
      rw [List.filter_cons_of_pos hf]
      have i2 := q_SR_filter (ok := ok) (f := f) L (S ++ [a]) (fun U hU ho u hu => h (a :: U) (hU.cons₂ a) (by rw [q_sc]; exact ho) u (List.mem_cons_of_mem _ hu))
      cases h1 : q_SR ok L (S ++ [a]) with
      | some T => rw [q_SR_s h1, q_SR_s (i2.symm.trans h1)]
      | none => rw [q_SR_n h1, q_SR_n (i2.symm.trans h1), i1]
    | false =>
      rw [List.filter_cons_of_neg (by rw [hf]; decide)]
      rw [q_SR_n (q_SR_nil fun U hU => ?_), i1]
      cases ho : ok (S ++ [a] ++ U) with
      | false => rfl
      | true =>
        have := h (a :: U) (hU.cons₂ a) (by rw [q_sc]; exact ho) a List.mem_cons_self
        rw [hf] at this
        cases this
/-! the chain of submasks -/
def q_ch {α : Type} (st : Nat → α → α) (r : Nat) : Nat → Nat → α → α
  | 0, p, q => st p q
  | n + 1, p, q => if p = 0 then st p q else q_ch st r n ((p - 1) &&& r) (st p q)
theorem q_ch_0 {α : Type} (st : Nat → α → α) (r : Nat) (n : Nat) (q : α) : q_ch st r n 0 q = st 0 q := by
  cases n with
  | zero => rfl
  | succ n => rw [q_ch, if_pos rfl]
theorem q_ch_s {α : Type} (st : Nat → α → α) (r : Nat) (n p : Nat) (q : α) : q_ch st r (n + 1) (p + 1) q = q_ch st r n (p &&& r) (st (p + 1) q) := by
  rw [q_ch, if_neg (Nat.succ_ne_zero p)]
  rfl
theorem q_ch_f {α : Type} (st : Nat → α → α) (r : Nat) : ∀ (n m p : Nat) (q : α), p ≤ n → p ≤ m → q_ch st r n p q = q_ch st r m p q
  | 0, m, p, q, h, _ => by rw [show p = 0 by omega, q_ch_0, q_ch_0]
  | n + 1, m, 0, q, _, _ => by rw [q_ch_0, q_ch_0]
  | n + 1, 0, p + 1, q, _, h => absurd h (by omega)
  | n + 1, m + 1, p + 1, q, h1, h2 => by
    have : p &&& r ≤ p := Nat.and_le_left
    rw [q_ch_s, q_ch_s, q_ch_f st r n m (p &&& r) _ (by omega) (by omega)]
theorem q_ch_cg {α : Type} {st st2 : Nat → α → α} {r : Nat} : ∀ (n p : Nat) (q : α), (∀ x, x ≤ p → ∀ q, st x q = st2 x q) → q_ch st r n p q = q_ch st2 r n p q
  | 0, p, q, h => h p (Nat.le_refl _) q
  | n + 1, 0, q, h => by rw [q_ch_0, q_ch_0]; exact h 0 (Nat.le_refl _) q
  | n + 1, p + 1, q, h => by
    have : p &&& r ≤ p := Nat.and_le_left
    rw [q_ch_s, q_ch_s, h (p + 1) (Nat.le_refl _), q_ch_cg n (p &&& r) _ (fun x hx => h x (by omega))]
theorem q_and1 {e p r : Nat} (hp : p < 2 ^ e) (hr : r < 2 ^ e) : p &&& (2 ^ e + r) = p &&& r := Nat.eq_of_testBit_eq fun i => by
  rw [Nat.testBit_and, Nat.testBit_and, q_tb hr]
  by_cases h : i = e
  · subst h; rw [Nat.testBit_lt_two_pow hp]; rfl
  · rw [decide_eq_false h, Bool.false_or]
theorem q_and2 {e p r : Nat} (hp : p < 2 ^ e) (hr : r < 2 ^ e) : (2 ^ e + p) &&& (2 ^ e + r) = 2 ^ e + (p &&& r) := Nat.eq_of_testBit_eq fun i => by
  rw [Nat.testBit_and, q_tb hp, q_tb hr, q_tb (Nat.lt_of_le_of_lt Nat.and_le_left hp), Nat.testBit_and]
  cases decide (i = e) <;> rfl
theorem q_and3 {e r : Nat} (hr : r < 2 ^ e) : (2 ^ e - 1) &&& (2 ^ e + r) = r := Nat.eq_of_testBit_eq fun i => by
  rw [Nat.testBit_and, q_tb hr, Nat.testBit_two_pow_sub_one]
  by_cases h : i < e
  · rw [decide_eq_true h, decide_eq_false (by omega), Bool.true_and, Bool.false_or]
  · rw [decide_eq_false h, Bool.false_and, Nat.testBit_lt_two_pow (Nat.lt_of_lt_of_le hr (Nat.pow_le_pow_right (by decide) (by omega)))]
theorem q_chB {α : Type} (st : Nat → α → α) {e r : Nat} (hr : r < 2 ^ e) : ∀ (n p : Nat) (q : α), p < 2 ^ e → q_ch st (2 ^ e + r) n p q = q_ch st r n p q
  | 0, p, q, _ => rfl
  | n + 1, 0, q, _ => by rw [q_ch_0, q_ch_0]
  | n + 1, p + 1, q, h => by
    have : p &&& r ≤ p := Nat.and_le_left
    rw [q_ch_s, q_ch_s, q_and1 (by omega) hr, q_chB st hr n _ _ (by omega)]
theorem q_chA {α : Type} (st : Nat → α → α) {e r : Nat} (hr : r < 2 ^ e) : ∀ (p n : Nat) (q : α), p < 2 ^ e → 2 ^ e + p ≤ n → q_ch st (2 ^ e + r) n (2 ^ e + p) q = q_ch st r r r (q_ch (fun p q => st (2 ^ e + p) q) r p p q) := by
  intro p
  induction p using Nat.strongRecOn with
  | ind p ih =>
    intro n q hp hn
    have h2 : 0 < 2 ^ e := Nat.pow_pos (by decide)
    obtain ⟨n', rfl⟩ : ∃ n', n = n' + 1 := ⟨n - 1, by omega⟩
    cases p with
    | zero =>
      rw [q_ch_0]
      obtain ⟨k, hk⟩ : ∃ k, 2 ^ e = k + 1 := ⟨2 ^ e - 1, by omega⟩
      show q_ch st (2 ^ e + r) (n' + 1) (2 ^ e + 0) q = q_ch st r r r (st (2 ^ e + 0) q)
      have e1 : q_ch st (2 ^ e + r) (n' + 1) (2 ^ e + 0) q = q_ch st (2 ^ e + r) n' ((2 ^ e + 0 - 1) &&& (2 ^ e + r)) (st (2 ^ e + 0) q) := by
        rw [q_ch, if_neg (by omega)]
      rw [e1, show 2 ^ e + 0 - 1 = 2 ^ e - 1 by omega, q_and3 hr, q_chB st hr _ _ _ hr]
      exact q_ch_f st r _ _ _ _ (by omega) (Nat.le_refl _)
    | succ p =>
      have h3 : p &&& r ≤ p := Nat.and_le_left
      have e1 : q_ch st (2 ^ e + r) (n' + 1) (2 ^ e + (p + 1)) q = q_ch st (2 ^ e + r) n' ((2 ^ e + (p + 1) - 1) &&& (2 ^ e + r)) (st (2 ^ e + (p + 1)) q) := by
        rw [q_ch, if_neg (by omega)]
      rw [e1, show 2 ^ e + (p + 1) - 1 = 2 ^ e + p by omega, q_and2 (by omega) hr, ih (p &&& r) (by omega) n' _ (by omega) (by omega)]
      rw [q_ch_s]
      congr 1
      exact q_ch_f _ r _ _ _ _ (Nat.le_refl _) h3
def q_fo {α : Type} (st : List Nat → List Nat → α → α) : List Nat → List Nat → List Nat → α → α
  | [], A, B, q => st A B q
  | a :: R, A, B, q => q_fo st R A (B ++ [a]) (q_fo st R (A ++ [a]) B q)
theorem q_fo_c {α : Type} (st : List Nat → List Nat → α → α) (a : Nat) (R A B : List Nat) (q : α) : q_fo st (a :: R) A B q = q_fo st R A (B ++ [a]) (q_fo st R (A ++ [a]) B q) := rfl
theorem q_xor1 {e p r : Nat} (hp : p < 2 ^ e) (hr : r < 2 ^ e) : (2 ^ e + r) ^^^ p = 2 ^ e + (r ^^^ p) := Nat.eq_of_testBit_eq fun i => by
  rw [Nat.testBit_xor, q_tb hr, q_tb (Nat.xor_lt_two_pow hr hp), Nat.testBit_xor]
  by_cases h : i = e
  · subst h; rw [Nat.testBit_lt_two_pow hp, Nat.testBit_lt_two_pow hr, decide_eq_true rfl]; rfl
  · rw [decide_eq_false h, Bool.false_or, Bool.false_or]
theorem q_xor2 {e p r : Nat} (hp : p < 2 ^ e) (hr : r < 2 ^ e) : (2 ^ e + r) ^^^ (2 ^ e + p) = r ^^^ p := Nat.eq_of_testBit_eq fun i => by
  rw [Nat.testBit_xor, q_tb hr, q_tb hp, Nat.testBit_xor]
  by_cases h : i = e
  · subst h; rw [Nat.testBit_lt_two_pow hp, Nat.testBit_lt_two_pow hr, decide_eq_true rfl]; rfl
  · rw [decide_eq_false h, Bool.false_or, Bool.false_or]
theorem q_ch_fo {α : Type} (st : List Nat → List Nat → α → α) : ∀ (L : List Nat) (r : Nat), r < 2 ^ L.length → ∀ (A B : List Nat) (q : α), q_ch (fun p q => st (A ++ q_sel L p) (B ++ q_sel L (r ^^^ p)) q) r r r q = q_fo st (q_sel L r) A B q
  | [], r, hr, A, B, q => by
    have : r = 0 := by simpa using hr
    subst this
    rw [q_ch_0]
    show st (A ++ []) (B ++ []) q = _
    rw [List.append_nil, List.append_nil]
    rfl
  | a :: L, r, hr, A, B, q => by
    rcases q_split hr with hb | ⟨r, rfl, hb⟩
    · rw [q_sel_l hb, ← q_ch_fo st L r hb A B q]
      refine q_ch_cg _ _ _ fun x hx q => ?_
      rw [q_sel_l (by omega), q_sel_l (Nat.xor_lt_two_pow hb (by omega))]
    · rw [q_sel_h hb, q_fo_c, q_chA _ hb r _ _ hb (Nat.le_refl _)]
      rw [← q_ch_fo st L r hb (A ++ [a]) B q, ← q_ch_fo st L r hb A (B ++ [a])]
      have e1 : q_ch (fun p q => st (A ++ q_sel (a :: L) (2 ^ L.length + p)) (B ++ q_sel (a :: L) ((2 ^ L.length + r) ^^^ (2 ^ L.length + p))) q) r r r q = q_ch (fun p q => st (A ++ [a] ++ q_sel L p) (B ++ q_sel L (r ^^^ p)) q) r r r q := q_ch_cg _ _ _ fun x hx q => by
        have hx2 : x < 2 ^ L.length := by omega
        rw [q_sel_h hx2, q_xor2 hx2 hb, q_sel_l (Nat.xor_lt_two_pow hb hx2), q_sc]
      rw [e1]
      refine q_ch_cg _ _ _ fun x hx q => ?_
      have hx2 : x < 2 ^ L.length := by omega
      rw [q_sel_l hx2, q_xor1 hx2 hb, q_sel_h (Nat.xor_lt_two_pow hb hx2), q_sc]
theorem q_fo_rel {α β : Type} {T : List Nat} (Rel : α → β → Prop) {st1 : List Nat → List Nat → α → α} {st2 : List Nat → List Nat → β → β} (hst : ∀ A B q1 q2, (A ++ B).Perm T → Rel q1 q2 → Rel (st1 A B q1) (st2 A B q2)) : ∀ (R A B : List Nat) (q1 : α) (q2 : β), (A ++ B ++ R).Perm T → Rel q1 q2 → Rel (q_fo st1 R A B q1) (q_fo st2 R A B q2)
  | [], A, B, q1, q2, h, hq => hst A B q1 q2 (by rw [List.append_nil] at h; exact h) hq
  | a :: R, A, B, q1, q2, h, hq => by
    rw [q_fo_c, q_fo_c]
    refine q_fo_rel Rel hst R A (B ++ [a]) _ _ (by rw [← List.append_assoc, List.append_assoc (A ++ B)]; exact h) ?_
    refine q_fo_rel Rel hst R (A ++ [a]) B _ _ ?_ hq
    refine List.Perm.trans ?_ h
    rw [List.append_assoc, List.append_assoc, List.append_assoc]
    exact ((List.perm_middle (a := a) (l₁ := B) (l₂ := R)).symm).append_left A
def q_msk : List Nat → List Nat → Nat
  | [], _ => 0
  | a :: L, A => (if a ∈ A then 2 ^ L.length else 0) + q_msk L A
theorem q_msk_cg {A A' : List Nat} : ∀ L : List Nat, (∀ t ∈ L, t ∈ A ↔ t ∈ A') → q_msk L A = q_msk L A'
  | [], _ => rfl
  | a :: L, h => by
    rw [q_msk, q_msk, q_msk_cg L (fun t ht => h t (List.mem_cons_of_mem _ ht))]
    by_cases ha : a ∈ A
    · rw [if_pos ha, if_pos ((h a List.mem_cons_self).mp ha)]
    · rw [if_neg ha, if_neg (fun q => ha ((h a List.mem_cons_self).mpr q))]
theorem q_msk_sel : ∀ (L : List Nat) (x : Nat), L.Nodup → x < 2 ^ L.length → q_msk L (q_sel L x) = x
  | [], x, _, h => by
    have : x = 0 := by simpa using h
    rw [this]; rfl
  | a :: L, x, hn, h => by
    obtain ⟨hn1, hn2⟩ := List.nodup_cons.mp hn
    rcases q_split h with hb | ⟨y, rfl, hb⟩
    · rw [q_sel_l hb, q_msk, if_neg (fun q => hn1 ((q_sel_sub L x).subset q)), Nat.zero_add, q_msk_sel L x hn2 hb]
    · rw [q_sel_h hb, q_msk, if_pos List.mem_cons_self, q_msk_cg (A' := q_sel L y) L (fun t ht => ⟨fun q => (List.mem_cons.mp q).resolve_left (fun e => hn1 (by rw [← e]; exact ht)), fun q => List.mem_cons_of_mem _ q⟩), q_msk_sel L y hn2 hb]
theorem q_plI {Q : List Nat} {mem : Nat → Int32} {X : Nat} (hQ : Q.length ≤ 31) : plI Q.length (nI X) (lnQ Q) mem Q.length = q_U mem (q_sel Q X) := gb_ext fun b _ => by
  have h1 : ∀ n, n ≤ Q.length → (gb (plI Q.length (nI X) (lnQ Q) mem n) b = true ↔ ∃ i, i < n ∧ X.testBit (Q.length - 1 - i) = true ∧ gb (mem (Q.getD i 0)) b = true) := by
    intro n
    induction n with
    | zero =>
      intro _
      rw [show plI Q.length (nI X) (lnQ Q) mem 0 = 0 from rfl, gb_0]
      exact ⟨fun h => (by cases h), fun ⟨i, h, _⟩ => absurd h (Nat.not_lt_zero i)⟩
    | succ n ih =>
      intro hn
      show gb (plI Q.length (nI X) (lnQ Q) mem n ||| (if hsI (nI X) (nI (Q.length - 1 - n)) = true then mem (Q.getD n 0) else 0)) b = true ↔ _
      rw [gb_or, Bool.or_eq_true, ih (by omega), hsI_gb _ (by omega), gb_nI _ (by omega)]
      constructor
      · rintro (⟨i, h1, h2⟩ | h)
        · exact ⟨i, by omega, h2⟩
        · by_cases hb : X.testBit (Q.length - 1 - n) = true
          · rw [if_pos hb] at h; exact ⟨n, by omega, hb, h⟩
          · rw [if_neg hb, gb_0] at h; cases h
      · rintro ⟨i, h1, h2, h3⟩
        by_cases hi : i < n
        · exact Or.inl ⟨i, hi, h2, h3⟩
        · have : i = n := by omega
          subst this
          rw [if_pos h2]
          exact Or.inr h3
  have h2 := h1 Q.length (Nat.le_refl _)
  have h3 := q_U_gb mem b (q_sel Q X)
  have h4 : (∃ i, i < Q.length ∧ X.testBit (Q.length - 1 - i) = true ∧ gb (mem (Q.getD i 0)) b = true) ↔ ∃ t ∈ q_sel Q X, gb (mem t) b = true := by
    constructor
    · rintro ⟨i, a1, a2, a3⟩
      exact ⟨_, (q_sel_mem X _ Q).mpr ⟨i, a1, a2, rfl⟩, a3⟩
    · rintro ⟨t, a1, a2⟩
      obtain ⟨i, b1, b2, b3⟩ := (q_sel_mem X _ Q).mp a1
      exact ⟨i, b1, b2, by rw [b3]; exact a2⟩
  have h5 := h2.trans (h4.trans h3.symm)
  cases ha : gb (plI Q.length (nI X) (lnQ Q) mem Q.length) b <;> cases hb : gb (q_U mem (q_sel Q X)) b
  · rfl
  · rw [ha, hb] at h5; exact absurd (h5.mpr rfl) (by decide)
  · rw [ha, hb] at h5; exact absurd (h5.mp rfl) (by decide)
  · rfl
