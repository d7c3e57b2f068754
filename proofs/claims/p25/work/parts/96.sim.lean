/-! ===== pass ===== -/
def mnL (fi : Nat → Nat → Int32) (z : CZ) (ck : Int32) : Nat → Int32 × (Nat → Nat → Int32)
  | 0 => (0, fi)
  | n + 1 => if (mnL fi z ck n).2 13 n = 0 ∧ (mnL fi z ck n).2 12 n ≤ ck then ((mnL fi z ck n).1 + 1, exF (mnL fi z ck n).2 z n) else mnL fi z ck n
theorem mnL_t {fi : Nat → Nat → Int32} {z : CZ} {ck : Int32} {n : Nat} (h : (mnL fi z ck n).2 13 n = 0 ∧ (mnL fi z ck n).2 12 n ≤ ck) : mnL fi z ck (n + 1) = ((mnL fi z ck n).1 + 1, exF (mnL fi z ck n).2 z n) := if_pos h
theorem mnL_f {fi : Nat → Nat → Int32} {z : CZ} {ck : Int32} {n : Nat} (h : ¬ ((mnL fi z ck n).2 13 n = 0 ∧ (mnL fi z ck n).2 12 n ≤ ck)) : mnL fi z ck (n + 1) = mnL fi z ck n := if_neg h
theorem mnL_far (fi : Nat → Nat → Int32) (z : CZ) (ck : Int32) {j : Nat} (h3 : j ≠ 3) (h4 : j ≠ 4) (h7 : j ≠ 7) (h13 : j ≠ 13) : ∀ n, (mnL fi z ck n).2 j = fi j
  | 0 => rfl
  | n + 1 => by
    by_cases h : (mnL fi z ck n).2 13 n = 0 ∧ (mnL fi z ck n).2 12 n ≤ ck
    · rw [mnL_t h]
      show exF (mnL fi z ck n).2 z n j = fi j
      rw [(q_exF _ z n).1 j h3 h4 h7 h13, mnL_far fi z ck h3 h4 h7 h13 n]
    · rw [mnL_f h, mnL_far fi z ck h3 h4 h7 h13 n]
theorem psL_mn (fi : Nat → Nat → Int32) (z : CZ) : ∀ n, psL fi z n = mnL fi z (fi 18 0) n
  | 0 => rfl
  | n + 1 => by
    have ih := psL_mn fi z n
    have e18 : (psL fi z n).2 18 0 = fi 18 0 := by rw [ih, mnL_far fi z _ (by decide) (by decide) (by decide) (by decide) n]
    by_cases h : (psL fi z n).2 13 n = 0 ∧ (psL fi z n).2 12 n ≤ (psL fi z n).2 18 0
    · rw [psL_t h]
      rw [e18, ih] at h
      rw [mnL_t h, ih]
    · rw [psL_f h]
      rw [e18, ih] at h
      rw [mnL_f h, ih]
theorem fu_cm (f : Nat → Nat → Int32) {j : Nat} (a : Nat) (v x : Int32) (hj : j ≠ 18) : fu (fu f 18 0 x) j a v = fu (fu f j a v) 18 0 x := by
  funext p b
  by_cases hp : p = 18
  · subst hp
    rw [fu_ne _ _ (Or.inl (Ne.symm hj))]
    by_cases hb : b = 0
    · subst hb; rw [fu_self, fu_self]
    · rw [fu_ne _ _ (Or.inr hb), fu_ne _ _ (Or.inr hb), fu_ne _ _ (Or.inl (Ne.symm hj))]
  · rw [fu_ne (fu f j a v) x (Or.inl hp)]
    by_cases h1 : p = j ∧ b = a
    · rw [h1.1, h1.2, fu_self, fu_self]
    · have h2 : p ≠ j ∨ b ≠ a := by
        by_cases h3 : p = j
        · exact Or.inr (fun e => h1 ⟨h3, e⟩)
        · exact Or.inl h3
      rw [fu_ne _ _ h2, fu_ne _ _ h2, fu_ne _ _ (Or.inl hp)]
theorem sndF_cm (f : Nat → Nat → Int32) (x y : Int32) (xs : List Nat) : sndF (fu f 18 0 x) y xs = fu (sndF f y xs) 18 0 x := by
  funext p b
  by_cases hp : p = 18
  · subst hp
    rw [sndF_far _ _ _ (by decide)]
    by_cases hb : b = 0
    · subst hb; rw [fu_self, fu_self]
    · rw [fu_ne _ _ (Or.inr hb), fu_ne _ _ (Or.inr hb), sndF_far _ _ _ (by decide)]
  · rw [fu_ne (sndF f y xs) x (Or.inl hp)]
    by_cases h7 : p = 7
    · subst h7
      show va_up (fu f 18 0 x) 7 (fun p => if p ∈ xs then y else fu f 18 0 x 7 p) 7 b = va_up f 7 (fun p => if p ∈ xs then y else f 7 p) 7 b
      rw [va_up_self, va_up_self, fu_ne _ _ (Or.inl (by decide))]
    · rw [sndF_far _ _ _ h7, sndF_far _ _ _ h7, fu_ne _ _ (Or.inl hp)]
theorem penF_cm (f : Nat → Nat → Int32) (x : Int32) (la : Option Nat) (k : Nat) (m : Int32) : penF (fu f 18 0 x) la k m = fu (penF f la k m) 18 0 x := by
  unfold penF
  rw [fu_ne f x (Or.inl (show (3 : Nat) ≠ 18 by decide))]
  cases la with
  | none =>
    show fu (fu (fu f 18 0 x) 3 k _) 4 k _ = fu (fu (fu f 3 k _) 4 k _) 18 0 x
    rw [fu_cm _ _ _ _ (show (3 : Nat) ≠ 18 by decide), fu_cm _ _ _ _ (show (4 : Nat) ≠ 18 by decide)]
  | some p =>
    show fu (fu (fu (fu f 18 0 x) 7 p 0) 3 k _) 4 k _ = fu (fu (fu (fu f 7 p 0) 3 k _) 4 k _) 18 0 x
    rw [fu_cm _ _ _ _ (show (7 : Nat) ≠ 18 by decide), fu_cm _ _ _ _ (show (3 : Nat) ≠ 18 by decide), fu_cm _ _ _ _ (show (4 : Nat) ≠ 18 by decide)]
theorem exL_cm (f : Nat → Nat → Int32) (x : Int32) (la : Nat → Option Nat) (aw dl : Int32) : ∀ n, exL (fu f 18 0 x) la aw dl n = fu (exL f la aw dl n) 18 0 x
  | 0 => rfl
  | n + 1 => by
    have ih := exL_cm f x la aw dl n
    show (if hsI aw (nI n) = true then penF (exL (fu f 18 0 x) la aw dl n) (la n) n dl else exL (fu f 18 0 x) la aw dl n) = fu (if hsI aw (nI n) = true then penF (exL f la aw dl n) (la n) n dl else exL f la aw dl n) 18 0 x
    by_cases h : hsI aw (nI n) = true
    · rw [if_pos h, if_pos h, ih, penF_cm]
    · rw [if_neg h, if_neg h, ih]
theorem exF_cm (f : Nat → Nat → Int32) (x : Int32) (z : CZ) (m : Nat) : exF (fu f 18 0 x) z m = fu (exF f z m) 18 0 x := by
  unfold exF
  rw [fu_cm _ _ _ _ (show (13 : Nat) ≠ 18 by decide), sndF_cm, exL_cm, fu_ne f x (Or.inl (show (14 : Nat) ≠ 18 by decide)), fu_ne f x (Or.inl (show (12 : Nat) ≠ 18 by decide))]
theorem mnL_cm (f : Nat → Nat → Int32) (x ck : Int32) (z : CZ) : ∀ n, mnL (fu f 18 0 x) z ck n = ((mnL f z ck n).1, fu (mnL f z ck n).2 18 0 x)
  | 0 => rfl
  | n + 1 => by
    have ih := mnL_cm f x ck z n
    have e13 : (mnL (fu f 18 0 x) z ck n).2 13 n = (mnL f z ck n).2 13 n := by rw [ih]; exact fu_ne (mnL f z ck n).2 (k := 0) x (Or.inl (show (13 : Nat) ≠ 18 by decide))
    have e12 : (mnL (fu f 18 0 x) z ck n).2 12 n = (mnL f z ck n).2 12 n := by rw [ih]; exact fu_ne (mnL f z ck n).2 (k := 0) x (Or.inl (show (12 : Nat) ≠ 18 by decide))
    by_cases h : (mnL f z ck n).2 13 n = 0 ∧ (mnL f z ck n).2 12 n ≤ ck
    · rw [mnL_t h, mnL_t (by rw [e13, e12]; exact h), ih, exF_cm]
    · rw [mnL_f h, mnL_f (by rw [e13, e12]; exact h), ih]
theorem q_cut2 {P : Nat → Prop} : ∀ n : Nat, (∀ i i', i ≤ i' → i' < n → P i' → P i) → ∃ j, j ≤ n ∧ (∀ i, i < j → P i) ∧ ∀ i, j ≤ i → i < n → ¬ P i
  | 0, _ => ⟨0, Nat.le_refl _, fun i h => absurd h (Nat.not_lt_zero i), fun i _ h => absurd h (Nat.not_lt_zero i)⟩
  | n + 1, hm => by
    obtain ⟨j, j1, j2, j3⟩ := q_cut2 (P := P) n (fun i i' h1 h2 => hm i i' h1 (by omega))
    by_cases hj : j < n
    · refine ⟨j, by omega, j2, fun i h1 h2 hp => ?_⟩
      exact j3 j (Nat.le_refl _) hj (hm j i h1 h2 hp)
    · have e : j = n := by omega
      by_cases hp : P n
      · refine ⟨n + 1, Nat.le_refl _, fun i hi => ?_, fun i h1 h2 => absurd h2 (by omega)⟩
        by_cases hi2 : i = n
        · rw [hi2]; exact hp
        · exact j2 i (by omega)
      · refine ⟨n, Nat.le_succ n, fun i hi => j2 i (by omega), fun i h1 h2 => ?_⟩
        rw [show i = n by omega]; exact hp
/-- passing in one go is passing minute by minute -/
theorem mnL_two {f : Nat → Nat → Int32} {z : CZ} {nm a b : Nat} {D : Nat → Nat} (hab : a ≤ b) (hb : b < 2 ^ 31) (hD : ∀ i, i < nm → f 12 i = nI (D i) ∧ D i < 2 ^ 31) (hDm : ∀ i i', i ≤ i' → i' < nm → D i ≤ D i') : mnL f z (nI b) nm = ((mnL f z (nI a) nm).1 + (mnL (mnL f z (nI a) nm).2 z (nI b) nm).1, (mnL (mnL f z (nI a) nm).2 z (nI b) nm).2) := by
  obtain ⟨j, j1, j2, j3⟩ := q_cut2 (P := fun i => D i ≤ a) nm (fun i i' h1 h2 h3 => Nat.le_trans (hDm i i' h1 h2) h3)
  have f12 : ∀ (g : Nat → Nat → Int32) (ck : Int32) n, (mnL g z ck n).2 12 = g 12 := fun g ck n => mnL_far g z ck (by decide) (by decide) (by decide) (by decide) n
  have le : ∀ i, i < nm → ∀ x, x < 2 ^ 31 → (f 12 i ≤ nI x ↔ D i ≤ x) := fun i hi x hx => by
    rw [(hD i hi).1]
    exact ⟨fun q => Nat.not_lt.mp fun q2 => nI_ge q2 (hD i hi).2 q, fun q => nI_le q hx⟩
  have p1 : ∀ n, n ≤ j → mnL f z (nI b) n = mnL f z (nI a) n ∧ ∀ x, x < n → (mnL f z (nI a) n).2 13 x ≠ 0 := by
    intro n
    induction n with
    | zero => exact fun _ => ⟨rfl, fun x hx => absurd hx (Nat.not_lt_zero x)⟩
    | succ n ih =>
      intro hn
      obtain ⟨i1, i2⟩ := ih (by omega)
      have hP := j2 n (by omega)
      by_cases h : (mnL f z (nI a) n).2 13 n = 0
      · have ha : (mnL f z (nI a) n).2 13 n = 0 ∧ (mnL f z (nI a) n).2 12 n ≤ nI a := ⟨h, by rw [f12]; exact (le n (by omega) a (by omega)).mpr hP⟩
        have hb2 : (mnL f z (nI b) n).2 13 n = 0 ∧ (mnL f z (nI b) n).2 12 n ≤ nI b := ⟨by rw [i1]; exact h, by rw [f12]; exact (le n (by omega) b hb).mpr (by omega)⟩
        rw [mnL_t ha, mnL_t hb2, i1]
        refine ⟨rfl, fun x hx => ?_⟩
        show exF (mnL f z (nI a) n).2 z n 13 x ≠ 0
        rw [(q_exF _ z n).2 x]
        by_cases hxn : x = n
        · rw [if_pos hxn]; decide
        · rw [if_neg hxn]; exact i2 x (by omega)
      · rw [mnL_f (fun q => h q.1), mnL_f (fun q => h (by rw [i1] at q; exact q.1)), i1]
        refine ⟨rfl, fun x hx => ?_⟩
        by_cases hxn : x = n
        · rw [hxn]; exact h
        · exact i2 x (by omega)
  obtain ⟨q1, q2⟩ := p1 j (Nat.le_refl _)
  have p2 : ∀ n, j ≤ n → n ≤ nm → mnL f z (nI a) n = mnL f z (nI a) j := by
    intro n
    induction n with
    | zero => intro h _; rw [show j = 0 by omega]
    | succ n ih =>
      intro h1 h2
      by_cases he : j = n + 1
      · rw [he]
      · have i1 := ih (by omega) (by omega)
        rw [mnL_f (fun q => j3 n (by omega) (by omega) ((le n (by omega) a (by omega)).mp (by rw [f12] at q; exact q.2))), i1]
  rw [p2 nm j1 (Nat.le_refl _)]
  have p3 : ∀ n, n ≤ j → mnL (mnL f z (nI a) j).2 z (nI b) n = (0, (mnL f z (nI a) j).2) := by
    intro n
    induction n with
    | zero => exact fun _ => rfl
    | succ n ih =>
      intro hn
      have i1 := ih (by omega)
      rw [mnL_f (fun q => q2 n (by omega) (by rw [i1] at q; exact q.1)), i1]
  have p4 : ∀ n, j ≤ n → n ≤ nm → mnL f z (nI b) n = ((mnL f z (nI a) j).1 + (mnL (mnL f z (nI a) j).2 z (nI b) n).1, (mnL (mnL f z (nI a) j).2 z (nI b) n).2) := by
    intro n
    induction n with
    | zero =>
      intro h _
      have : j = 0 := by omega
      subst this
      rw [q1, p3 0 (Nat.le_refl _)]
      exact Prod.ext (Int32.add_zero _).symm rfl
    | succ n ih =>
      intro h1 h2
      by_cases he : j = n + 1
      · rw [← he, q1, p3 j (Nat.le_refl _)]
        exact Prod.ext (Int32.add_zero _).symm rfl
      · have i1 := ih (by omega) (by omega)
        have e2 : (mnL f z (nI b) n).2 = (mnL (mnL f z (nI a) j).2 z (nI b) n).2 := by rw [i1]
        by_cases h : (mnL f z (nI b) n).2 13 n = 0 ∧ (mnL f z (nI b) n).2 12 n ≤ nI b
        · rw [mnL_t h]
          rw [e2] at h
          rw [mnL_t h, i1]
          exact Prod.ext (Int32.add_assoc _ _ _) rfl
        · rw [mnL_f h]
          rw [e2] at h
          rw [mnL_f h, i1]
  exact p4 nm j1 (Nat.le_refl _)
section SMp
variable {c : Nat} {fi : Nat → Nat → Int32} {z : CZ} {sc sc' : Nat → Int32} {ar : Nat → Nat → Int32}
theorem SM.min (h : SM c fi z sc ar) (hc : c + 1 ≤ 100000) (k0 : Int32) : ∀ n, n ≤ zN z 2 → SM c (mnL fi z (nI (c + 1)) n).2 z sc (innA (zN z 0) (zN z 1) (nI (c + 1)) n (ar, k0)).1 ∧ (innA (zN z 0) (zN z 1) (nI (c + 1)) n (ar, k0)).2 = k0 + (mnL fi z (nI (c + 1)) n).1 ∧ ∀ x, x < n → (mnL fi z (nI (c + 1)) n).2 13 x = 0 → ¬ fi 12 x ≤ nI (c + 1)
  | 0, _ => ⟨h, (Int32.add_zero _).symm, fun x hx => absurd hx (Nat.not_lt_zero x)⟩
  | n + 1, hn => by
    obtain ⟨i1, i2, i3⟩ := h.min hc k0 n (by omega)
    have f12 : (mnL fi z (nI (c + 1)) n).2 12 = fi 12 := mnL_far fi z _ (by decide) (by decide) (by decide) (by decide) n
    obtain ⟨hy, d, hd1, -⟩ := i1.2.2.2.2.2.1
    have hyn := hy n (by omega)
    obtain ⟨d1, d2, d3, d4⟩ := hd1 n (by omega)
    have hcond : ((innA (zN z 0) (zN z 1) (nI (c + 1)) n (ar, k0)).1 15 n = 0 ∧ 3 ≤ nI (c + 1) - (innA (zN z 0) (zN z 1) (nI (c + 1)) n (ar, k0)).1 13 n) ↔ ((mnL fi z (nI (c + 1)) n).2 13 n = 0 ∧ (mnL fi z (nI (c + 1)) n).2 12 n ≤ nI (c + 1)) := by
      rw [← hyn.2.2.2.1, d1, d2, q_nsub (by omega), show (3 : Int32) = nI 3 from rfl]
      refine and_congr_right fun _ => ⟨fun q => nI_le ?_ (by omega), fun q => nI_le ?_ (by omega)⟩
      · exact Nat.not_lt.mp fun q2 => nI_ge (a := c + 1 - d n) (b := 3) (by omega) (by omega) q
      · exact Nat.not_lt.mp fun q2 => nI_ge (a := c + 1) (b := d n + 3) (by omega) (by omega) q
    by_cases hf : (mnL fi z (nI (c + 1)) n).2 13 n = 0 ∧ (mnL fi z (nI (c + 1)) n).2 12 n ≤ nI (c + 1)
    · rw [mnL_t hf, innA_t (hcond.mpr hf)]
      have hlt := d4 hf.1
      have hle : d n + 3 ≤ c + 1 := by
        have := hf.2
        rw [d2] at this
        exact Nat.not_lt.mp fun q2 => nI_ge q2 (by omega) this
      refine ⟨i1.exp (by omega) hf.1 (by rw [d2, show d n + 3 = c + 1 by omega]) (fun _ _ => rfl), ?_, fun x hx h13 => ?_⟩
      · show (innA _ _ _ n (ar, k0)).2 + 1 = _
        rw [i2]
        exact Int32.add_assoc _ _ _
      · have h13 : exF (mnL fi z (nI (c + 1)) n).2 z n 13 x = 0 := h13
        rw [(q_exF _ z n).2 x] at h13
        by_cases hxn : x = n
        · rw [if_pos hxn] at h13; exact absurd h13 (by decide)
        · rw [if_neg hxn] at h13; exact i3 x (by omega) h13
    · rw [mnL_f hf, innA_f (fun q => hf (hcond.mp q))]
      refine ⟨i1, i2, fun x hx h13 => ?_⟩
      by_cases hxn : x = n
      · subst hxn
        rw [f12] at hf
        exact fun q => hf ⟨h13, q⟩
      · exact i3 x (by omega) h13
theorem SM.tick (h : SM c fi z sc ar) (hc : c + 1 ≤ 100000) (hn : ∀ x, x < zN z 2 → fi 13 x = 0 → ¬ fi 12 x ≤ nI (c + 1)) (hs : ∀ j, j < 3 → sc' j = sc j) (hs3 : sc' 3 = nI (c + 1)) : SM (c + 1) (fu fi 18 0 (nI (c + 1))) z sc' ar := by
  have Fo : ∀ j, j ≠ 18 → fu fi 18 0 (nI (c + 1)) j = fi j := fun j hj => funext fun b => fu_ne _ _ (Or.inl hj)
  obtain ⟨h0, h1, h2, h3, h4, h5, h6⟩ := h
  refine ⟨?_, ?_, ?_, ?_, ?_, ?_, h6⟩
  · obtain ⟨k0, k1, k2, k3, k4, k5, k6, k7, k8⟩ := h0
    exact ⟨by rw [hs 0 (by decide)]; exact k0, by rw [hs 1 (by decide)]; exact k1, by rw [hs 2 (by decide)]; exact k2, hs3, fu_self _ _ _ _, k5, k6, k7, hc⟩
  · unfold SP at h1 ⊢
    rw [Fo 0 (by decide), Fo 1 (by decide), Fo 2 (by decide), Fo 3 (by decide), Fo 4 (by decide), q_stC_e (Fo 7 (by decide))]
    exact h1
  · intro t ht
    obtain ⟨p1, p2, p3, p4, p5, p6, p7, p8, s, s1, s2⟩ := h2 t ht
    rw [Fo 5 (by decide), Fo 6 (by decide), Fo 7 (by decide), Fo 8 (by decide), q_rcL_e (Fo 0 (by decide))]
    exact ⟨p1, p2, p3, p4, p5, p6, p7, p8, s, by omega, s2⟩
  · unfold SL at h3 ⊢
    rw [Fo 5 (by decide), Fo 7 (by decide)]
    exact h3
  · unfold SX at h4 ⊢
    rw [Fo 7 (by decide), Fo 13 (by decide)]
    exact h4
  · obtain ⟨hy, d, hd1, hd2⟩ := h5
    refine ⟨fun m hm => ?_, d, fun m hm => ?_, hd2⟩
    · rw [Fo 5 (by decide), Fo 9 (by decide), Fo 10 (by decide), Fo 11 (by decide), Fo 13 (by decide), Fo 14 (by decide)]
      exact hy m hm
    · obtain ⟨d1, d2, d3, d4⟩ := hd1 m hm
      rw [Fo 12 (by decide), Fo 13 (by decide)]
      refine ⟨d1, d2, by omega, fun hst => ?_⟩
      have := hn m hm hst
      rw [d2] at this
      exact Nat.not_le.mp fun q => this (nI_le q (by omega))
/-- the class's state, minute by minute -/
def mnS (fi : Nat → Nat → Int32) (z : CZ) (c : Nat) : Nat → Int32 × (Nat → Nat → Int32)
  | 0 => (0, fi)
  | t + 1 => ((mnS fi z c t).1 + (mnL (mnS fi z c t).2 z (nI (c + t + 1)) (zN z 2)).1, fu (mnL (mnS fi z c t).2 z (nI (c + t + 1)) (zN z 2)).2 18 0 (nI (c + t + 1)))
theorem SM.mins (h : SM c fi z sc ar) : ∀ t, c + t ≤ 100000 → SM (c + t) (mnS fi z c t).2 z (va_up sc 3 (nI (c + t))) (outA (zN z 0) (zN z 1) (zN z 2) (nI c) ar t).1 ∧ (outA (zN z 0) (zN z 1) (zN z 2) (nI c) ar t).2 = (mnS fi z c t).1
  | 0, _ => ⟨by
      have e : va_up sc 3 (nI (c + 0)) = sc := by rw [show nI (c + 0) = sc 3 from h.1.2.2.2.1.symm]; exact va_up_id sc 3
      rw [e]
      exact h, rfl⟩
  | t + 1, ht => by
    obtain ⟨i1, i2⟩ := h.mins t (by omega)
    obtain ⟨m1, m2, m3⟩ := i1.min (by omega) (outA (zN z 0) (zN z 1) (zN z 2) (nI c) ar t).2 (zN z 2) (Nat.le_refl _)
    have eo : outA (zN z 0) (zN z 1) (zN z 2) (nI c) ar (t + 1) = innA (zN z 0) (zN z 1) (nI (c + t + 1)) (zN z 2) ((outA (zN z 0) (zN z 1) (zN z 2) (nI c) ar t).1, (outA (zN z 0) (zN z 1) (zN z 2) (nI c) ar t).2) := by
      show innA _ _ (nI c + nI (t + 1)) _ _ = _
      rw [nI_add]
      rfl
    rw [eo]
    refine ⟨?_, by rw [m2, i2]; rfl⟩
    have e12 : (mnL (mnS fi z c t).2 z (nI (c + t + 1)) (zN z 2)).2 12 = (mnS fi z c t).2 12 := mnL_far _ z _ (by decide) (by decide) (by decide) (by decide) _
    exact m1.tick (by omega) (fun x hx h13 => by rw [e12]; exact m3 x hx h13) (fun j hj => by rw [va_up_ne _ _ (by omega), va_up_ne _ _ (by omega)]) (va_up_self _ _ _)
theorem fu_fu (f : Nat → Nat → Int32) (j k : Nat) (x y : Int32) : fu (fu f j k x) j k y = fu f j k y := by
  funext p b
  by_cases h : p = j ∧ b = k
  · rw [h.1, h.2, fu_self, fu_self]
  · have h2 : p ≠ j ∨ b ≠ k := by
      by_cases h3 : p = j
      · exact Or.inr (fun e => h ⟨h3, e⟩)
      · exact Or.inl h3
    rw [fu_ne _ _ h2, fu_ne _ _ h2, fu_ne _ _ h2]
theorem fu_id (f : Nat → Nat → Int32) (j k : Nat) : fu f j k (f j k) = f := by
  funext p b
  by_cases h : p = j ∧ b = k
  · rw [h.1, h.2, fu_self]
  · have h2 : p ≠ j ∨ b ≠ k := by
      by_cases h3 : p = j
      · exact Or.inr (fun e => h ⟨h3, e⟩)
      · exact Or.inl h3
    rw [fu_ne _ _ h2]
theorem SM.go (h : SM c fi z sc ar) : ∀ T, c + T ≤ 100000 → mnS fi z c T = ((mnL fi z (nI (c + T)) (zN z 2)).1, fu (mnL fi z (nI (c + T)) (zN z 2)).2 18 0 (nI (c + T)))
  | 0, _ => by
    obtain ⟨hy, d, hd1, -⟩ := h.2.2.2.2.2.1
    have h0 : ∀ n, n ≤ zN z 2 → mnL fi z (nI c) n = (0, fi) := by
      intro n
      induction n with
      | zero => exact fun _ => rfl
      | succ n ih =>
        intro hn
        have i1 := ih (by omega)
        obtain ⟨d1, d2, d3, d4⟩ := hd1 n (by omega)
        rw [mnL_f (fun q => by
          rw [i1] at q
          have q1 : fi 13 n = 0 := q.1
          have q2 : fi 12 n ≤ nI c := q.2
          have hc := h.1.2.2.2.2.2.2.2.2
          rw [d2] at q2
          exact nI_ge (d4 q1) (by omega) q2), i1]
    rw [show c + 0 = c from rfl, h0 _ (Nat.le_refl _)]
    show (0, fi) = (0, fu fi 18 0 (nI c))
    rw [← h.ck, fu_id]
  | T + 1, hT => by
    have ih := h.go T (by omega)
    obtain ⟨hy, d, hd1, hd2⟩ := h.2.2.2.2.2.1
    have h2 := mnL_two (f := fi) (z := z) (nm := zN z 2) (a := c + T) (b := c + T + 1) (D := fun i => d i + 3) (Nat.le_succ _) (by omega) (fun i hi => ⟨(hd1 i hi).2.1, by have := (hd1 i hi).2.2.1; show d i + 3 < 2 ^ 31; omega⟩) (fun i i' h1 h2 => Nat.add_le_add_right (hd2 i i' h1 h2) 3)
    show ((mnS fi z c T).1 + (mnL (mnS fi z c T).2 z (nI (c + T + 1)) (zN z 2)).1, fu (mnL (mnS fi z c T).2 z (nI (c + T + 1)) (zN z 2)).2 18 0 (nI (c + T + 1))) = _
    rw [ih]
    dsimp only
    rw [mnL_cm, fu_fu, show c + (T + 1) = c + T + 1 from rfl, h2]
theorem SM.pas (h : SM c fi z sc ar) {T : Nat} (hT : c + T ≤ 100000) : SM (c + T) (psL (fu fi 18 0 (fi 18 0 + nI T)) z (zN z 2)).2 z (va_up sc 3 (nI (c + T))) (outA (zN z 0) (zN z 1) (zN z 2) (sc 3) ar T).1 ∧ (psL (fu fi 18 0 (fi 18 0 + nI T)) z (zN z 2)).1 = (outA (zN z 0) (zN z 1) (zN z 2) (sc 3) ar T).2 := by
  obtain ⟨i1, i2⟩ := h.mins T hT
  have hg := h.go T hT
  have e : psL (fu fi 18 0 (fi 18 0 + nI T)) z (zN z 2) = mnS fi z c T := by
    rw [h.ck, nI_add, psL_mn, fu_self, mnL_cm, hg]
  rw [e, h.1.2.2.2.1]
  exact ⟨i1, i2.symm⟩
end SMp
