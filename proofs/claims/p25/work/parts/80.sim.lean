/-! ===== sums over lists and masks ===== -/
def q_sL (g : Nat → Int32) (xs : List Nat) : Int32 := xs.foldl (fun c k => c + g k) 0
theorem q_sL_1 (g : Nat → Int32) (xs : List Nat) (k : Nat) : q_sL g (xs ++ [k]) = q_sL g xs + g k := by unfold q_sL; rw [List.foldl_append]; rfl
theorem q_foldl (g : Nat → Int32) : ∀ (xs : List Nat) (c : Int32), xs.foldl (fun c k => c + g k) c = c + q_sL g xs
  | [], c => (Int32.add_zero c).symm
  | a :: t, c => by
    show t.foldl (fun c k => c + g k) (c + g a) = c + t.foldl (fun c k => c + g k) (0 + g a)
    rw [q_foldl g t, q_foldl g t, Int32.zero_add, Int32.add_assoc]
theorem q_sL_c (g : Nat → Int32) (a : Nat) (t : List Nat) : q_sL g (a :: t) = g a + q_sL g t := by
  show t.foldl (fun c k => c + g k) (0 + g a) = _
  rw [q_foldl, Int32.zero_add]
theorem q_sL_a (g : Nat → Int32) (xs ys : List Nat) : q_sL g (xs ++ ys) = q_sL g xs + q_sL g ys := by
  unfold q_sL
  rw [List.foldl_append]
  exact q_foldl g ys _
theorem q_sL_cg {g h : Nat → Int32} : ∀ {xs : List Nat}, (∀ k ∈ xs, g k = h k) → q_sL g xs = q_sL h xs
  | [], _ => rfl
  | a :: t, e => by rw [q_sL_c, q_sL_c, e a List.mem_cons_self, q_sL_cg (fun k hk => e k (List.mem_cons_of_mem _ hk))]
theorem q_sumI (g : Nat → Int32) (xs : List Nat) : ∀ n, n ≤ xs.length → sumI (fun i => g (xs.getD i 0)) n = q_sL g (xs.take n)
  | 0, _ => by rw [List.take_zero]; rfl
  | n + 1, h => by
    have hn : xs[n]? = some (xs[n]'(by omega)) := List.getElem?_eq_getElem (by omega)
    rw [take_1 hn, q_sL_1, ← q_sumI g xs n (by omega)]
    show sumI _ n + g (xs.getD n 0) = _
    rw [List.getD, hn]
    rfl
theorem q_smC (fi : Nat → Nat → Int32) (xs : List Nat) : smC fi xs = q_sL (fi 1) xs := by
  unfold smC
  show sumI (fun i => fi 1 (xs.getD i 0)) xs.length = _
  rw [q_sumI _ _ _ (Nat.le_refl _), List.take_length]
theorem q_JQ (g : Nat → Int32) (s : Int32) : ∀ n, q_sL g (JQ s n) = sumI (fun k => if hsI s (nI k) = true then g k else 0) n
  | 0 => rfl
  | n + 1 => by
    cases h : hsI s (nI n) with
    | true =>
      rw [JQ_t h, q_sL_1, q_JQ g s n]
      show _ = sumI _ n + (if hsI s (nI n) = true then g n else 0)
      rw [if_pos h]
    | false =>
      rw [JQ_f h, q_JQ g s n]
      show _ = sumI _ n + (if hsI s (nI n) = true then g n else 0)
      rw [if_neg (by rw [h]; decide), Int32.add_zero]
theorem q_smI (n : Nat) (s : Int32) (rt : Nat → Int32) : smI n s rt = q_sL rt (JQ s n) := (q_JQ rt s n).symm
theorem q_cnt (s : Int32) : ∀ n, (JQ s n).length = cntN (fun k => hsI s (nI k)) n
  | 0 => rfl
  | n + 1 => by
    show _ = cntN _ n + (if hsI s (nI n) = true then 1 else 0)
    cases h : hsI s (nI n) with
    | true => rw [JQ_t h, List.length_append, q_cnt s n]; rfl
    | false => rw [JQ_f h, q_cnt s n]; rfl
theorem q_szI (s : Int32) : szI s = nI (JQ s 18).length := by
  unfold szI
  rw [szI_cnt, q_cnt]
theorem q_cut {s : Int32} {np n : Nat} (h : np ≤ n) (hz : ∀ k, np ≤ k → k < n → hsI s (nI k) = false) : JQ s n = JQ s np := by
  induction n with
  | zero => rw [show np = 0 by omega]
  | succ n ih =>
    by_cases he : np = n + 1
    · rw [he]
    · rw [JQ_f (hz n (by omega) (by omega)), ih (by omega) (fun k a b => hz k a (by omega))]
theorem q_mJ {s : Int32} {n k : Nat} (hn : n ≤ 32) : k ∈ JQ s n ↔ k < n ∧ gb s k = true := by
  unfold JQ
  rw [List.mem_filter, List.mem_range]
  refine and_congr_right fun h => ?_
  rw [hsI_gb s (by omega)]
theorem q_nodup (s : Int32) (n : Nat) : (JQ s n).Nodup := List.Pairwise.sublist List.filter_sublist List.nodup_range
/-- no bits from n on -/
def q_bw (n : Nat) (s : Int32) : Prop := ∀ k, n ≤ k → k < 32 → gb s k = false
theorem q_bw_h {n : Nat} {s : Int32} (h : q_bw n s) {k : Nat} (h1 : n ≤ k) (h2 : k < 32) : hsI s (nI k) = false := by rw [hsI_gb s h2]; exact h k h1 h2
theorem q_bw_J {np n : Nat} {s : Int32} (h : q_bw np s) (h1 : np ≤ n) (h2 : n ≤ 32) : JQ s n = JQ s np := q_cut h1 fun k a b => q_bw_h h a (by omega)
theorem q_bw_m {n m : Nat} {s : Int32} (h : q_bw n s) (hm : n ≤ m) : q_bw m s := fun k a b => h k (by omega) b
theorem q_bw_or {n : Nat} {a b : Int32} (ha : q_bw n a) (hb : q_bw n b) : q_bw n (a ||| b) := fun k h1 h2 => by rw [gb_or, ha k h1 h2, hb k h1 h2]; rfl
theorem q_bw_0 (n : Nat) : q_bw n 0 := fun k _ _ => gb_0 k
/-- the union of the masks of a list -/
def q_U (m : Nat → Int32) (T : List Nat) : Int32 := T.foldr (fun t c => m t ||| c) 0
theorem q_U_c (m : Nat → Int32) (t : Nat) (T : List Nat) : q_U m (t :: T) = m t ||| q_U m T := rfl
theorem q_U_gb (m : Nat → Int32) (k : Nat) : ∀ T : List Nat, gb (q_U m T) k = true ↔ ∃ t ∈ T, gb (m t) k = true
  | [] => by
    rw [show q_U m [] = 0 from rfl, gb_0]
    exact ⟨fun h => (by cases h), fun ⟨_, h, _⟩ => absurd h List.not_mem_nil⟩
  | a :: T => by
    rw [q_U_c, gb_or, Bool.or_eq_true, q_U_gb m k T]
    constructor
    · rintro (h | ⟨t, h1, h2⟩)
      · exact ⟨a, List.mem_cons_self, h⟩
      · exact ⟨t, List.mem_cons_of_mem _ h1, h2⟩
    · rintro ⟨t, h1, h2⟩
      rcases List.mem_cons.mp h1 with rfl | h1
      · exact Or.inl h2
      · exact Or.inr ⟨t, h1, h2⟩
theorem q_U_bw {m : Nat → Int32} {n : Nat} {T : List Nat} (h : ∀ t ∈ T, q_bw n (m t)) : q_bw n (q_U m T) := fun k h1 h2 => by
  cases hg : gb (q_U m T) k with
  | false => rfl
  | true =>
    obtain ⟨t, ht, hk⟩ := (q_U_gb m k T).mp hg
    rw [h t ht k h1 h2] at hk
    exact hk.symm
theorem q_U_cg {m m' : Nat → Int32} : ∀ {T : List Nat}, (∀ t ∈ T, m t = m' t) → q_U m T = q_U m' T
  | [], _ => rfl
  | a :: T, h => by rw [q_U_c, q_U_c, h a List.mem_cons_self, q_U_cg (fun t ht => h t (List.mem_cons_of_mem _ ht))]
/-- no player in both -/
def q_dj (m : Nat → Int32) (a b : Nat) : Prop := ∀ k, k < 32 → ¬ (gb (m a) k = true ∧ gb (m b) k = true)
theorem q_dj_s {m : Nat → Int32} {a b : Nat} (h : q_dj m a b) : q_dj m b a := fun k hk q => h k hk ⟨q.2, q.1⟩
theorem q_sumI_or {g : Nat → Int32} {a b : Int32} : ∀ {n : Nat}, n ≤ 32 → (∀ k, k < 32 → ¬ (gb a k = true ∧ gb b k = true)) → sumI (fun k => if hsI (a ||| b) (nI k) = true then g k else 0) n = sumI (fun k => if hsI a (nI k) = true then g k else 0) n + sumI (fun k => if hsI b (nI k) = true then g k else 0) n
  | 0, _, _ => rfl
  | n + 1, hn, h => by
    have ih := q_sumI_or (g := g) (n := n) (by omega) h
    show sumI _ n + (if hsI (a ||| b) (nI n) = true then g n else 0) = (sumI _ n + (if hsI a (nI n) = true then g n else 0)) + (sumI _ n + (if hsI b (nI n) = true then g n else 0))
    rw [ih, hsI_gb _ (by omega), hsI_gb _ (by omega), hsI_gb _ (by omega), gb_or]
    have hh := h n (by omega)
    cases ha : gb a n <;> cases hb : gb b n
    · simp only [Bool.or_self, Bool.false_eq_true, if_false, Int32.add_zero]
    · simp only [Bool.false_or, Bool.false_eq_true, if_false, if_true, Int32.add_zero, Int32.add_assoc]
    · simp only [Bool.or_false, Bool.false_eq_true, if_false, if_true, Int32.add_zero]
      rw [Int32.add_assoc, Int32.add_assoc, Int32.add_comm (g n)]
    · exact absurd ⟨ha, hb⟩ hh
theorem q_sL_or {g : Nat → Int32} {a b : Int32} {n : Nat} (hn : n ≤ 32) (h : ∀ k, k < 32 → ¬ (gb a k = true ∧ gb b k = true)) : q_sL g (JQ (a ||| b) n) = q_sL g (JQ a n) + q_sL g (JQ b n) := by rw [q_JQ, q_JQ, q_JQ, q_sumI_or hn h]
theorem q_len_or {a b : Int32} : ∀ {n : Nat}, n ≤ 32 → (∀ k, k < 32 → ¬ (gb a k = true ∧ gb b k = true)) → (JQ (a ||| b) n).length = (JQ a n).length + (JQ b n).length
  | 0, _, _ => rfl
  | n + 1, hn, h => by
    have ih := q_len_or (a := a) (b := b) (n := n) (by omega) h
    have hh := h n (by omega)
    rw [q_cnt, q_cnt, q_cnt] at ih ⊢
    show cntN _ n + (if hsI (a ||| b) (nI n) = true then 1 else 0) = (cntN _ n + (if hsI a (nI n) = true then 1 else 0)) + (cntN _ n + (if hsI b (nI n) = true then 1 else 0))
    rw [ih, hsI_gb _ (by omega), hsI_gb _ (by omega), hsI_gb _ (by omega), gb_or]
    cases ha : gb a n <;> cases hb : gb b n
    · simp
    · simp; omega
    · simp; omega
    · exact absurd ⟨ha, hb⟩ hh
theorem q_dj_U {m : Nat → Int32} {t : Nat} {T : List Nat} (h : ∀ u ∈ T, q_dj m t u) : ∀ k, k < 32 → ¬ (gb (m t) k = true ∧ gb (q_U m T) k = true) := fun k hk q => by
  obtain ⟨u, hu, hg⟩ := (q_U_gb m k T).mp q.2
  exact h u hu k hk ⟨q.1, hg⟩
/-- sums over the players of disjoint parties -/
theorem q_sL_U {m : Nat → Int32} {g : Nat → Int32} {n : Nat} (hn : n ≤ 32) : ∀ {T : List Nat}, T.Pairwise (q_dj m) → q_sL g (JQ (q_U m T) n) = q_sL (fun t => q_sL g (JQ (m t) n)) T
  | [], _ => by
    rw [q_JQ, show q_U m [] = 0 from rfl]
    show sumI _ n = 0
    have : ∀ i, i ≤ n → sumI (fun k => if hsI 0 (nI k) = true then g k else 0) i = 0 := by
      intro i
      induction i with
      | zero => intro _; rfl
      | succ i ih =>
        intro hi
        show sumI _ i + (if hsI 0 (nI i) = true then g i else 0) = 0
        rw [ih (by omega), hsI_gb _ (by omega), gb_0]
        rfl
    exact this n (Nat.le_refl _)
  | t :: T, h => by
    obtain ⟨h1, h2⟩ := List.pairwise_cons.mp h
    rw [q_U_c, q_sL_or hn (q_dj_U h1), q_sL_c, q_sL_U hn h2]
def q_sN (g : Nat → Nat) (xs : List Nat) : Nat := xs.foldr (fun k c => g k + c) 0
theorem q_sN_c (g : Nat → Nat) (a : Nat) (t : List Nat) : q_sN g (a :: t) = g a + q_sN g t := rfl
theorem q_sN_a (g : Nat → Nat) (ys : List Nat) : ∀ xs, q_sN g (xs ++ ys) = q_sN g xs + q_sN g ys
  | [] => (Nat.zero_add _).symm
  | a :: t => by rw [List.cons_append, q_sN_c, q_sN_c, q_sN_a g ys t, Nat.add_assoc]
theorem q_sN_cg {g h : Nat → Nat} : ∀ {xs : List Nat}, (∀ k ∈ xs, g k = h k) → q_sN g xs = q_sN h xs
  | [], _ => rfl
  | a :: t, e => by rw [q_sN_c, q_sN_c, e a List.mem_cons_self, q_sN_cg (fun k hk => e k (List.mem_cons_of_mem _ hk))]
theorem q_len_U {m : Nat → Int32} {n : Nat} (hn : n ≤ 32) : ∀ {T : List Nat}, T.Pairwise (q_dj m) → (JQ (q_U m T) n).length = q_sN (fun t => (JQ (m t) n).length) T
  | [], _ => by
    rw [q_cnt, show q_U m [] = 0 from rfl]
    show cntN _ n = 0
    have : ∀ i, i ≤ n → cntN (fun k => hsI 0 (nI k)) i = 0 := by
      intro i
      induction i with
      | zero => intro _; rfl
      | succ i ih =>
        intro hi
        show cntN _ i + (if hsI 0 (nI i) = true then 1 else 0) = 0
        rw [ih (by omega), hsI_gb _ (by omega), gb_0]
        rfl
    exact this n (Nat.le_refl _)
  | t :: T, h => by
    obtain ⟨h1, h2⟩ := List.pairwise_cons.mp h
    rw [q_U_c, q_len_or hn (q_dj_U h1), q_sN_c, q_len_U hn h2]
theorem q_sN_perm {g : Nat → Nat} {xs ys : List Nat} (h : xs.Perm ys) : q_sN g xs = q_sN g ys := by
  induction h with
  | nil => rfl
  | cons a _ ih => rw [q_sN_c, q_sN_c, ih]
  | swap a b l => rw [q_sN_c, q_sN_c, q_sN_c, q_sN_c]; omega
  | trans _ _ a b => exact a.trans b
theorem q_sLN {g : Nat → Int32} {h : Nat → Nat} : ∀ {xs : List Nat}, (∀ k ∈ xs, g k = nI (h k)) → q_sL g xs = nI (q_sN h xs)
  | [], _ => rfl
  | a :: t, e => by rw [q_sL_c, q_sN_c, e a List.mem_cons_self, q_sLN (fun k hk => e k (List.mem_cons_of_mem _ hk)), nI_add]
