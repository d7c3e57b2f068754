/-! ===== the parties of a match, and the law's choices of them ===== -/
theorem bw_nat {n : Nat} {s : Int32} (h : q_bw n s) (hn : n ≤ 30) : ∃ x, x < 2 ^ n ∧ s = nI x := by
  have e : s = nI s.toBitVec.toNat := Int32.toBitVec_inj.mp (BitVec.eq_of_toNat_eq (by
    show _ = (BitVec.ofNat 32 _).toNat
    rw [BitVec.toNat_ofNat]
    exact (Nat.mod_eq_of_lt s.toBitVec.isLt).symm))
  refine ⟨s.toBitVec.toNat, Nat.lt_pow_two_of_testBit _ fun i hi => ?_, e⟩
  by_cases h32 : i < 32
  · have := h i hi h32
    rw [e, gb_nI _ h32] at this
    exact this
  · exact Nat.testBit_lt_two_pow (Nat.lt_of_lt_of_le s.toBitVec.isLt (Nat.pow_le_pow_right (by decide) (by omega)))
/-! a sorted list, cut at a number -/
theorem flt_ge {T : List Nat} (hs : T.Pairwise (· < ·)) (i : Nat) : T.filter (fun t => decide (i ≤ t)) = (if i ∈ T then [i] else []) ++ T.filter (fun t => decide (i + 1 ≤ t)) := by
  induction T with
  | nil => rfl
  | cons a R ih =>
    obtain ⟨h1, h2⟩ := List.pairwise_cons.mp hs
    have ih := ih h2
    by_cases ha : i < a
    · have h3 : i ∉ a :: R := fun q => by
        rcases List.mem_cons.mp q with q | q
        · omega
        · have := h1 i q; omega
      rw [if_neg h3, List.nil_append]
      exact List.filter_congr fun t ht => by
        rw [decide_eq_decide]
        rcases List.mem_cons.mp ht with q | q
        · omega
        · have := h1 t q; omega
    · by_cases he : i = a
      · subst he
        have h3 : i ∉ R := fun q => by have := h1 i q; omega
        rw [if_pos List.mem_cons_self, List.filter_cons_of_pos (by simp), List.filter_cons_of_neg (by simp), ih, if_neg h3]
        rfl
      · have h3 : (i ∈ a :: R) ↔ i ∈ R := ⟨fun q => (List.mem_cons.mp q).resolve_left he, List.mem_cons_of_mem _⟩
        rw [List.filter_cons_of_neg (by simp; omega), List.filter_cons_of_neg (by simp; omega), ih]
        by_cases h4 : i ∈ R
        · rw [if_pos h4, if_pos (h3.mpr h4)]
        · rw [if_neg h4, if_neg (fun q => h4 (h3.mp q))]
theorem flt_lt {T : List Nat} (hs : T.Pairwise (· < ·)) (i : Nat) : T.filter (fun t => decide (t < i + 1)) = T.filter (fun t => decide (t < i)) ++ (if i ∈ T then [i] else []) := by
  induction T with
  | nil => rfl
  | cons a R ih =>
    obtain ⟨h1, h2⟩ := List.pairwise_cons.mp hs
    have ih := ih h2
    by_cases ha : i < a
    · have h3 : i ∉ a :: R := fun q => by
        rcases List.mem_cons.mp q with q | q
        · omega
        · have := h1 i q; omega
      rw [if_neg h3, List.append_nil]
      exact List.filter_congr fun t ht => by
        rw [decide_eq_decide]
        rcases List.mem_cons.mp ht with q | q
        · omega
        · have := h1 t q; omega
    · by_cases he : i = a
      · subst he
        have h3 : i ∉ R := fun q => by have := h1 i q; omega
        have h4 : R.filter (fun t => decide (t < i)) = [] := List.filter_eq_nil_iff.mpr fun t ht => by have := h1 t ht; simp; omega
        rw [if_pos List.mem_cons_self, List.filter_cons_of_pos (by simp), List.filter_cons_of_neg (by simp), ih, if_neg h3, h4]
        rfl
      · have h3 : (i ∈ a :: R) ↔ i ∈ R := ⟨fun q => (List.mem_cons.mp q).resolve_left he, List.mem_cons_of_mem _⟩
        rw [List.filter_cons_of_pos (by simp; omega), List.filter_cons_of_pos (by simp; omega), ih]
        by_cases h4 : i ∈ R
        · rw [if_pos h4, if_pos (h3.mpr h4)]; rfl
        · rw [if_neg h4, if_neg (fun q => h4 (h3.mp q))]; rfl
theorem flt_0 (T : List Nat) : T.filter (fun t => decide (0 ≤ t)) = T := List.filter_eq_self.mpr fun t _ => by simp
theorem flt_n {T : List Nat} {n : Nat} (h : ∀ t ∈ T, t < n) : T.filter (fun t => decide (t < n)) = T ∧ T.filter (fun t => decide (n ≤ t)) = [] := ⟨List.filter_eq_self.mpr fun t ht => by simp; exact h t ht, List.filter_eq_nil_iff.mpr fun t ht => by have := h t ht; simp; omega⟩
/-- the place of a party is how many are ahead of it -/
theorem idx_lt {T : List Nat} (hs : T.Pairwise (· < ·)) {i : Nat} (hi : i ∈ T) : T.idxOf i = (T.filter (fun t => decide (t < i))).length := by
  induction T with
  | nil => exact absurd hi List.not_mem_nil
  | cons a R ih =>
    obtain ⟨h1, h2⟩ := List.pairwise_cons.mp hs
    by_cases he : a = i
    · subst he
      rw [List.idxOf_cons_self, List.filter_cons_of_neg (by simp), List.filter_eq_nil_iff.mpr (fun t ht => by have := h1 t ht; simp; omega)]
      rfl
    · have h3 : i ∈ R := (List.mem_cons.mp hi).resolve_left (fun q => he q.symm)
      have := h1 i h3
      rw [show (a :: R).idxOf i = R.idxOf i + 1 by rw [List.idxOf_cons, show (a == i) = false from beq_eq_false_iff_ne.mpr he]; rfl, List.filter_cons_of_pos (by simp; omega), List.length_cons, ih h2 h3]
def firI : List Nat → Int32
  | [] => -1
  | a :: _ => nI a
/-- which of two choices is ahead: 1 the first, -1 the second, 0 so far the same -/
def ahS (p q : Nat → Bool) (a : Int32) (t : Nat) : Int32 := if ¬ a = 0 ∨ p t = q t then a else if p t = true then 1 else -1
def ahF (p q : Nat → Bool) (T : List Nat) : Int32 := T.foldl (ahS p q) 0
theorem ahS_a {p q : Nat → Bool} {a : Int32} {t : Nat} (h : ¬ a = 0) : ahS p q a t = a := if_pos (Or.inl h)
theorem ahS_e {p q : Nat → Bool} {a : Int32} {t : Nat} (h : p t = q t) : ahS p q a t = a := if_pos (Or.inr h)
theorem ahS_t {p q : Nat → Bool} {a : Int32} {t : Nat} (h : a = 0) (hp : p t = true) (hq : q t = false) : ahS p q a t = 1 := by
  unfold ahS
  rw [if_neg (fun r => r.elim (fun r => r h) (fun r => by rw [hp, hq] at r; cases r)), if_pos hp]
theorem ahS_f {p q : Nat → Bool} {a : Int32} {t : Nat} (h : a = 0) (hp : p t = false) (hq : q t = true) : ahS p q a t = -1 := by
  unfold ahS
  rw [if_neg (fun r => r.elim (fun r => r h) (fun r => by rw [hp, hq] at r; cases r)), if_neg (by rw [hp]; decide)]
theorem ahF_1 (p q : Nat → Bool) (T : List Nat) (t : Nat) : ahF p q (T ++ [t]) = ahS p q (ahF p q T) t := by unfold ahF; rw [List.foldl_append]; rfl
theorem ah_c (p q : Nat → Bool) : ∀ (T : List Nat) (a : Int32), ¬ a = 0 → T.foldl (ahS p q) a = a
  | [], a, _ => rfl
  | t :: T, a, h => by
    show T.foldl (ahS p q) (ahS p q a t) = a
    rw [show ahS p q a t = a from if_pos (Or.inl h)]
    exact ah_c p q T a h
theorem ah_pos {p q : Nat → Bool} : ∀ T : List Nat, 0 < ahF p q T → eaR T p q
  | [], h => absurd h (show ¬ (0 : Int32) < 0 by decide)
  | t :: T, h => by
    have h1 : ahF p q (t :: T) = T.foldl (ahS p q) (ahS p q 0 t) := rfl
    by_cases e : p t = q t
    · have h2 : ahS p q 0 t = 0 := if_pos (Or.inr e)
      rw [h1, h2] at h
      exact Or.inr ⟨e, ah_pos T h⟩
    · cases hp : p t with
      | true =>
        refine Or.inl ⟨hp, ?_⟩
        rw [hp] at e
        cases hq : q t with
        | false => rfl
        | true => exact absurd hq.symm e
      | false =>
        have h2 : ahS p q 0 t = -1 := by
          unfold ahS
          rw [if_neg (fun r => r.elim (fun r => r rfl) e), if_neg (by rw [hp]; decide)]
        rw [h1, h2, ah_c p q T (-1) (by decide)] at h
        exact absurd h (by decide)
section PK
variable {c : Nat} {fi : Nat → Nat → Int32} {z : CZ} {sc : Nat → Int32} {ar : Nat → Nat → Int32} {lq : Nat → Int64} {la : Nat → Nat → Int32} {P S Q M : Nat → Nat}
theorem PK.far (hS : SM c fi z sc ar) {X Y : List Nat} (hX : X.Pairwise (q_dj (fi 5))) (hY : Y.Pairwise (q_dj (fi 5))) (mX : ∀ t ∈ X, t < zN z 1) (mY : ∀ t ∈ Y, t < zN z 1) : absI (smI 18 (q_U (fi 5) X) (fi 1) - smI 18 (q_U (fi 5) Y) (fi 1)) = q_far fi z X Y := by
  have h1 : ∀ X : List Nat, X.Pairwise (q_dj (fi 5)) → (∀ t ∈ X, t < zN z 1) → smI 18 (q_U (fi 5) X) (fi 1) = q_sL (fun t => smC fi (zL z (11, t))) X := fun X hX mX => by
    rw [q_smI, q_sL_U (by decide) hX]
    exact q_sL_cg fun t ht => by rw [q_smC, hS.J (mX t ht)]
  rw [h1 X hX mX, h1 Y hY mY, q_abs]
  rfl
theorem PK.tA (hS : SM c fi z sc ar) {X : List Nat} (hX : X.Pairwise (q_dj (fi 5))) (mX : ∀ t ∈ X, t < zN z 1) : tmB (zN z 0) (ar 3) (q_U (fi 5) X) = q_tA fi z X := by
  rw [← hS.U7 mX]; exact hS.tm hX mX
/-- of two parties that queue: one player in common, and they are one -/
theorem PK.and0 {x y : Int32} (h : x &&& y = 0) {k : Nat} (hk : k < 32) : ¬ (gb x k = true ∧ gb y k = true) := fun q => by
  have := congrArg (fun v => gb v k) h
  simp only [gb_and, gb_0] at this
  rw [q.1, q.2] at this
  cases this
theorem PK.ne0 {x y : Int32} {k : Nat} (hx : gb x k = true) (hy : gb y k = true) : ¬ x &&& y = 0 := fun h => by
  have := congrArg (fun v => gb v k) h
  simp only [gb_and, gb_0] at this
  rw [hx, hy] at this
  cases this
theorem PK.eq0 {x y : Int32} (h : ∀ k, k < 32 → gb x k = true → gb y k = false) : x &&& y = 0 := gb_ext fun k hk => by
  rw [gb_and, gb_0]
  cases hx : gb x k with
  | false => rfl
  | true => rw [h k hk hx]; rfl
theorem PK.some (hS : SM c fi z sc ar) (hI : IV c (zN z 0) (zN z 1) (zN z 2) ar lq la P S Q M) {t : Nat} (ht : t < zN z 1) : ∃ k, k < 18 ∧ gb (fi 5 t) k = true := by
  have h := (SI.len hS hI ht).1
  obtain ⟨k, hk⟩ := List.exists_mem_of_length_pos (l := JQ (nI (P t)) 18) h
  obtain ⟨k1, k2⟩ := (q_mJ (by decide)).mp hk
  exact ⟨k, k1, by rw [SI.p5 hS hI ht]; exact k2⟩
/-- a party of X meets the players of X; one that queues and is not of X doesn't -/
theorem PK.in (hS : SM c fi z sc ar) (hI : IV c (zN z 0) (zN z 1) (zN z 2) ar lq la P S Q M) {X : List Nat} (hX : ∀ t ∈ X, t < zN z 1 ∧ fi 7 t = 1) {t : Nat} (ht : t < zN z 1) (h7 : fi 7 t = 1) : nI (P t) &&& q_U (fi 5) X = 0 ↔ t ∉ X := by
  rw [← SI.p5 hS hI ht]
  constructor
  · intro h q
    obtain ⟨k, k1, k2⟩ := PK.some hS hI ht
    exact PK.and0 h (by omega) ⟨k2, (q_U_gb _ _ _).mpr ⟨t, q, k2⟩⟩
  · intro h
    refine PK.eq0 fun k hk hg => ?_
    cases hu : gb (q_U (fi 5) X) k with
    | false => rfl
    | true =>
      obtain ⟨u, u1, u2⟩ := (q_U_gb _ _ _).mp hu
      obtain ⟨u3, u4⟩ := hX u u1
      exact absurd (hS.one ht u3 hk hg u2 (by rw [h7]; decide) (by rw [u4]; decide)) (fun q => h (by rw [q]; exact u1))
theorem PK.sub (hS : SM c fi z sc ar) (hI : IV c (zN z 0) (zN z 1) (zN z 2) ar lq la P S Q M) {X : List Nat} (hX : ∀ t ∈ X, t < zN z 1 ∧ fi 7 t = 1) {t : Nat} (ht : t < zN z 1) (h7 : fi 7 t = 1) : nI (P t) &&& (q_U (fi 5) X ^^^ (-1)) = 0 ↔ t ∈ X := by
  rw [← SI.p5 hS hI ht]
  constructor
  · intro h
    obtain ⟨k, k1, k2⟩ := PK.some hS hI ht
    have h3 : gb (q_U (fi 5) X) k = true := by
      cases hu : gb (q_U (fi 5) X) k with
      | true => rfl
      | false => exact absurd ⟨k2, by rw [gb_not _ (by omega), hu]; rfl⟩ (PK.and0 h (k := k) (by omega))
    obtain ⟨u, u1, u2⟩ := (q_U_gb _ _ _).mp h3
    obtain ⟨u3, u4⟩ := hX u u1
    rw [hS.one ht u3 (by omega) k2 u2 (by rw [h7]; decide) (by rw [u4]; decide)]
    exact u1
  · intro h
    refine PK.eq0 fun k hk hg => ?_
    rw [gb_not _ hk, (q_U_gb _ _ _).mpr ⟨t, h, hg⟩]
    rfl
theorem PK.or {X Y T : List Nat} (h : ∀ t, t ∈ T ↔ t ∈ X ∨ t ∈ Y) : q_U (fi 5) X ||| q_U (fi 5) Y = q_U (fi 5) T := gb_ext fun k hk => by
  have e : ∀ b c : Bool, (b = true ↔ c = true) → b = c := fun b c h => by cases b <;> cases c <;> simp_all
  refine e _ _ ?_
  rw [gb_or, Bool.or_eq_true, q_U_gb, q_U_gb, q_U_gb]
  constructor
  · rintro (⟨t, h1, h2⟩ | ⟨t, h1, h2⟩)
    · exact ⟨t, (h t).mpr (Or.inl h1), h2⟩
    · exact ⟨t, (h t).mpr (Or.inr h1), h2⟩
  · rintro ⟨t, h1, h2⟩
    rcases (h t).mp h1 with q | q
    · exact Or.inl ⟨t, q, h2⟩
    · exact Or.inr ⟨t, q, h2⟩
/-- what is left of the players of T -/
theorem PK.rest (hS : SM c fi z sc ar) {T : List Nat} (hT : ∀ t ∈ T, t < zN z 1 ∧ fi 7 t = 1) (p : Nat → Bool) : q_U (fi 5) T &&& (q_U (fi 5) (T.filter p) ^^^ (-1)) = q_U (fi 5) (T.filter (fun t => !p t)) := gb_ext fun k hk => by
  have e : ∀ b c : Bool, (b = true ↔ c = true) → b = c := fun b c h => by cases b <;> cases c <;> simp_all
  refine e _ _ ?_
  rw [gb_and, gb_not _ hk, Bool.and_eq_true, q_U_gb, q_U_gb, Bool.not_eq_true']
  constructor
  · rintro ⟨⟨t, h1, h2⟩, h3⟩
    refine ⟨t, List.mem_filter.mpr ⟨h1, ?_⟩, h2⟩
    cases hp : p t with
    | false => rfl
    | true =>
      rw [(q_U_gb _ _ _).mpr ⟨t, List.mem_filter.mpr ⟨h1, hp⟩, h2⟩] at h3
      cases h3
  · rintro ⟨t, h1, h2⟩
    obtain ⟨h3, h4⟩ := List.mem_filter.mp h1
    refine ⟨⟨t, h3, h2⟩, ?_⟩
    cases hu : gb (q_U (fi 5) (T.filter p)) k with
    | false => rfl
    | true =>
      obtain ⟨u, u1, u2⟩ := (q_U_gb _ _ _).mp hu
      obtain ⟨u3, u4⟩ := List.mem_filter.mp u1
      have := hS.one (hT t h3).1 (hT u u3).1 hk h2 u2 (by rw [(hT t h3).2]; decide) (by rw [(hT u u3).2]; decide)
      subst this
      rw [u4] at h4
      cases h4
end PK
theorem PK.set {c : Nat} {fi : Nat → Nat → Int32} {z : CZ} {sc : Nat → Int32} {ar : Nat → Nat → Int32} (hS : SM c fi z sc ar) {X : List Nat} (hX : X.Pairwise (q_dj (fi 5))) (mX : ∀ t ∈ X, t < zN z 1) : ∃ x, x < 262144 ∧ q_U (fi 5) X = nI x ∧ q_bw (zN z 0) (nI x) ∧ tmB (zN z 0) (ar 3) (nI x) = q_tA fi z X ∧ ∀ k, k < 18 → hsI (nI x) (nI k) = true → k < zN z 0 := by
  have hb := hS.Ubw mX
  have hn := hS.np
  obtain ⟨x, x1, x2⟩ := bw_nat hb (by omega)
  have h18 : 2 ^ zN z 0 ≤ 2 ^ 18 := Nat.pow_le_pow_right (by decide) hn
  refine ⟨x, by omega, x2, by rw [← x2]; exact hb, by rw [← x2]; exact PK.tA hS hX mX, fun k hk h => Nat.lt_of_not_le fun q => ?_⟩
  rw [← x2, q_bw_h hb q (by omega)] at h
  cases h
theorem or32_c (a b : Int32) : a ||| b = b ||| a := gb_ext fun k _ => by rw [gb_or, gb_or, Bool.or_comm]
theorem or32_0 (a : Int32) : a ||| 0 = a := gb_ext fun k _ => by rw [gb_or, gb_0, Bool.or_false]
theorem q_Q_lt (fi : Nat → Nat → Int32) (n : Nat) : (q_Q fi n).Pairwise (· < ·) := List.Pairwise.sublist List.filter_sublist List.pairwise_lt_range
theorem hsI_tb {w k : Nat} (hk : k < 32) : hsI (nI w) (nI k) = w.testBit k := (hsI_gb _ hk).trans (gb_nI _ hk)
theorem ftC_sy {c : Nat} {fi : Nat → Nat → Int32} {z : CZ} {sc : Nat → Int32} {ar : Nat → Nat → Int32} (hS : SM c fi z sc ar) {t u : Nat} (ht : t < zN z 1) (hu : u < zN z 1) : ftC fi z (fi 18 0) t u = ftC fi z (nI c) u t := (hS.ft2 ht hu).symm.trans (hS.ft ht hu)
theorem len6 {c : Nat} {fi : Nat → Nat → Int32} {z : CZ} {sc : Nat → Int32} {ar : Nat → Nat → Int32} (hS : SM c fi z sc ar) : ∀ {T : List Nat}, (∀ t ∈ T, t < zN z 1) → T.length ≤ q_sN (q_ln z) T
  | [], _ => Nat.le_refl _
  | a :: T, h => by
    have h1 := (hS.dh a (h a List.mem_cons_self)).1
    have h2 := len6 hS (T := T) (fun t ht => h t (List.mem_cons_of_mem _ ht))
    rw [List.length_cons, q_sN_c]
    show _ ≤ (zL z (11, a)).length + _
    omega
