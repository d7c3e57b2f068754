/-! ===== the law's arrays and the state behind them ===== -/
def ICo (c np nt nm : Nat) (la : Nat → Nat → Int32) : Prop := la 6 0 = nI c ∧ la 6 1 = nI np ∧ la 6 2 = nI nt ∧ la 6 3 = nI nm ∧ np ≤ 18 ∧ nt ≤ 60 ∧ nm ≤ 30 ∧ c ≤ 2000
def IPl (np : Nat) (ar la : Nat → Nat → Int32) : Prop := ∀ k, k < np → la 2 k = ar 3 k ∧ la 3 k = ar 6 k ∧ (∃ R, R ≤ 4000 ∧ ar 1 k = nI R) ∧ ∃ D, 50 ≤ D ∧ D ≤ 350 ∧ ar 2 k = nI D
def IPa (c nt : Nat) (ar : Nat → Nat → Int32) (P S Q M : Nat → Nat) : Prop := ∀ t, t < nt → ar 7 t = nI (P t) ∧ ar 8 t = nI (S t) ∧ S t ≤ c ∧ ar 9 t = nI (Q t) ∧ ar 10 t = nI (M t) - 1
def IMa (np nm : Nat) (ar la : Nat → Nat → Int32) : Prop := ∀ m, m < nm → (∃ U T, U < 262144 ∧ T < 4 ∧ allI (ar 11) m = nI U ∧ ar 15 m = nI T ∧ la 1 m = nI (U + 262144 * T)) ∧ la 4 m = ar 14 m ∧ la 5 m = ar 13 m ∧ q_bw np (ar 11 (2 * m)) ∧ q_bw np (ar 11 (2 * m + 1)) ∧ ar 11 (2 * m) &&& ar 11 (2 * m + 1) = 0
/-- the law's arrays tell the state -/
def IV (c np nt nm : Nat) (ar : Nat → Nat → Int32) (lq : Nat → Int64) (la : Nat → Nat → Int32) (P S Q M : Nat → Nat) : Prop := ICo c np nt nm la ∧ QI lq nt P S Q M ∧ IPa c nt ar P S Q M ∧ IMa np nm ar la ∧ IPl np ar la ∧ ∀ k, np ≤ k → k < 18 → la 3 k = 0
section IVs
variable {c n0 n1 n2 : Nat} {ar : Nat → Nat → Int32} {lq : Nat → Int64} {la : Nat → Nat → Int32} {P S Q M : Nat → Nat}
theorem IV.c0 (h : IV c n0 n1 n2 ar lq la P S Q M) : la 6 0 = nI c := h.1.1
theorem IV.c1 (h : IV c n0 n1 n2 ar lq la P S Q M) : la 6 1 = nI n0 := h.1.2.1
theorem IV.c2 (h : IV c n0 n1 n2 ar lq la P S Q M) : la 6 2 = nI n1 := h.1.2.2.1
theorem IV.c3 (h : IV c n0 n1 n2 ar lq la P S Q M) : la 6 3 = nI n2 := h.1.2.2.2.1
theorem IV.np (h : IV c n0 n1 n2 ar lq la P S Q M) : n0 ≤ 18 := h.1.2.2.2.2.1
theorem IV.nt (h : IV c n0 n1 n2 ar lq la P S Q M) : n1 ≤ 60 := h.1.2.2.2.2.2.1
theorem IV.nm (h : IV c n0 n1 n2 ar lq la P S Q M) : n2 ≤ 30 := h.1.2.2.2.2.2.2.1
theorem IV.cc (h : IV c n0 n1 n2 ar lq la P S Q M) : c ≤ 2000 := h.1.2.2.2.2.2.2.2
theorem IV.ok (h : IV c n0 n1 n2 ar lq la P S Q M) {t : Nat} (ht : t < n1) : eOk (P t) (S t) (Q t) (M t) := (h.2.1 t ht).1
theorem IV.q (h : IV c n0 n1 n2 ar lq la P S Q M) {t : Nat} (ht : t < n1) : lq t = lN (eN (P t) (S t) (Q t) (M t)) := (h.2.1 t ht).2
def IV.pa (h : IV c n0 n1 n2 ar lq la P S Q M) {t : Nat} (ht : t < n1) := h.2.2.1 t ht
def IV.ma (h : IV c n0 n1 n2 ar lq la P S Q M) {m : Nat} (hm : m < n2) := h.2.2.2.1 m hm
def IV.pl (h : IV c n0 n1 n2 ar lq la P S Q M) {k : Nat} (hk : k < n0) := h.2.2.2.2.1 k hk
end IVs
/-! a match's cell -/
theorem j_st {U T : Nat} (hU : U < 262144) (hT : T < 4) : (nI (U + 262144 * T) >>> ((18 : Int32) &&& 31)) &&& 3 = nI T := by
  rw [pk_shrN (by omega) _ 18 (by decide +kernel), pk_andN (by omega) 2 (by decide +kernel)]
  congr 1
  omega
theorem j_U {U T : Nat} (hU : U < 262144) (hT : T < 4) : nI (U + 262144 * T) &&& 262143 = nI U := by
  rw [pk_andN (by omega) 18 (by decide +kernel)]
  congr 1
  omega
/-! unions -/
def orI (p : Nat → Bool) (g : Nat → Int32) : Nat → Int32
  | 0 => 0
  | i + 1 => orI p g i ||| (if p i = true then g i else 0)
theorem orI_t {p : Nat → Bool} {g : Nat → Int32} {i : Nat} (h : p i = true) : orI p g i ||| g i = orI p g (i + 1) := by
  show _ = orI p g i ||| (if p i = true then g i else 0)
  rw [if_pos h]
theorem orI_f {p : Nat → Bool} {g : Nat → Int32} {i : Nat} (h : p i = false) : orI p g i ||| 0 = orI p g (i + 1) := by
  show _ = orI p g i ||| (if p i = true then g i else 0)
  rw [if_neg (by rw [h]; decide)]
theorem orI_gb (p : Nat → Bool) (g : Nat → Int32) (k : Nat) : ∀ n, gb (orI p g n) k = true ↔ ∃ t, t < n ∧ p t = true ∧ gb (g t) k = true
  | 0 => by
    rw [show orI p g 0 = 0 from rfl, gb_0]
    exact ⟨fun h => (by cases h), fun ⟨t, ht, _⟩ => absurd ht (Nat.not_lt_zero t)⟩
  | n + 1 => by
    show gb (orI p g n ||| (if p n = true then g n else 0)) k = true ↔ _
    rw [gb_or, Bool.or_eq_true, orI_gb p g k n]
    constructor
    · rintro (⟨t, h1, h2⟩ | h)
      · exact ⟨t, by omega, h2⟩
      · by_cases hp : p n = true
        · rw [if_pos hp] at h; exact ⟨n, by omega, hp, h⟩
        · rw [if_neg hp, gb_0] at h; cases h
    · rintro ⟨t, h1, h2, h3⟩
      by_cases ht : t = n
      · subst ht
        refine Or.inr ?_
        rw [if_pos h2]; exact h3
      · exact Or.inl ⟨t, by omega, h2, h3⟩
def qB (Q : Nat → Nat) (t : Nat) : Bool := decide (Q t = 1)
def plB (ar : Nat → Nat → Int32) (m : Nat) : Bool := decide (ar 15 m = 0 ∨ ar 15 m = 1)
section SIV
variable {c : Nat} {fi : Nat → Nat → Int32} {z : CZ} {sc : Nat → Int32} {ar : Nat → Nat → Int32} {lq : Nat → Int64} {la : Nat → Nat → Int32} {P S Q M : Nat → Nat}
theorem SI.q1 (hS : SM c fi z sc ar) (hI : IV c (zN z 0) (zN z 1) (zN z 2) ar lq la P S Q M) {t : Nat} (ht : t < zN z 1) : Q t = 1 ↔ fi 7 t = 1 := by
  have h1 := (hS.pt ht).2.2.2.2.2.2.1
  have h2 := (hI.pa ht).2.2.2.1
  have h3 := (hI.ok ht).2.2.1
  rw [h2] at h1
  by_cases h : fi 7 t = 1
  · rw [decide_eq_true h] at h1
    exact ⟨fun _ => h, fun _ => (nI_eq (by omega) (by decide)).mp h1⟩
  · rw [decide_eq_false h] at h1
    exact ⟨fun q => (by have := (nI_eq (a := Q t) (b := 0) (by omega) (by decide)).mp h1; omega), fun q => absurd q h⟩
theorem SI.p5 (hS : SM c fi z sc ar) (hI : IV c (zN z 0) (zN z 1) (zN z 2) ar lq la P S Q M) {t : Nat} (ht : t < zN z 1) : fi 5 t = nI (P t) := (hS.pt ht).1.trans (hI.pa ht).1
theorem SI.s6 (hS : SM c fi z sc ar) (hI : IV c (zN z 0) (zN z 1) (zN z 2) ar lq la P S Q M) {t : Nat} (ht : t < zN z 1) : fi 6 t = nI (S t) := (hS.pt ht).2.1.trans (hI.pa ht).2.1
theorem SI.bw (hS : SM c fi z sc ar) (hI : IV c (zN z 0) (zN z 1) (zN z 2) ar lq la P S Q M) {t : Nat} (ht : t < zN z 1) : q_bw (zN z 0) (nI (P t)) := by
  rw [← SI.p5 hS hI ht]; exact hS.bw ht
theorem SI.in (hS : SM c fi z sc ar) (hI : IV c (zN z 0) (zN z 1) (zN z 2) ar lq la P S Q M) {t : Nat} (ht : t < zN z 1) : ∀ k, k < 18 → hsI (nI (P t)) (nI k) = true → k < zN z 0 := fun k hk h => by
  refine Nat.lt_of_not_le fun q => ?_
  rw [q_bw_h (SI.bw hS hI ht) q (by omega)] at h
  cases h
theorem SI.len (hS : SM c fi z sc ar) (hI : IV c (zN z 0) (zN z 1) (zN z 2) ar lq la P S Q M) {t : Nat} (ht : t < zN z 1) : 1 ≤ (JQ (nI (P t)) 18).length ∧ (JQ (nI (P t)) 18).length ≤ 3 := by
  have h := (hS.pt ht).2.2.2.2.1
  rwa [hS.J ht, SI.p5 hS hI ht] at h
theorem SI.cnt (hS : SM c fi z sc ar) (hI : IV c (zN z 0) (zN z 1) (zN z 2) ar lq la P S Q M) : ∀ n, n ≤ zN z 1 → sumI (fun t => if qB Q t = true then 1 else 0) n = sumI (qcT fi) n := fun n hn => e_sumI_cg n fun k hk => by
  unfold qcT qB
  by_cases h : fi 7 k = 1
  · rw [if_pos h, if_pos (decide_eq_true ((SI.q1 hS hI (by omega)).mpr h))]
  · rw [if_neg h, if_neg (fun q => h ((SI.q1 hS hI (by omega)).mp (of_decide_eq_true q)))]
/-- a player's state, out of the sets -/
theorem SI.st1 (hS : SM c fi z sc ar) (hI : IV c (zN z 0) (zN z 1) (zN z 2) ar lq la P S Q M) {k : Nat} (hk : k < zN z 0) (h : hsI (orI (qB Q) (fun t => nI (P t)) (zN z 1)) (nI k) = true) : stC fi (zA z k) = 1 := by
  have hk2 := hS.np
  rw [hsI_gb _ (by omega)] at h
  obtain ⟨t, ht, h1, h2⟩ := (orI_gb _ _ _ _).mp h
  have h7 := (SI.q1 hS hI ht).mp (of_decide_eq_true h1)
  rw [hS.la ht (by omega) (by rw [SI.p5 hS hI ht]; exact h2) (by rw [h7]; decide)]
  exact h7
theorem SI.all (hS : SM c fi z sc ar) {m : Nat} (hm : m < zN z 2) (hst : ar 15 m = 0 ∨ ar 15 m = 1) {k : Nat} (hk : k < 32) : gb (allI (ar 11) m) k = true ↔ ∃ t ∈ zL z (12, m), gb (fi 5 t) k = true := by
  obtain ⟨-, -, -, h4, -, h6, -⟩ := hS.mt hm
  rw [← h4] at hst
  exact (h6 hst).1 k hk
theorem SI.st2 (hS : SM c fi z sc ar) {k : Nat} (hk : k < zN z 0) (h : hsI (orI (plB ar) (fun m => allI (ar 11) m) (zN z 2)) (nI k) = true) : stC fi (zA z k) = 2 := by
  have hk2 := hS.np
  rw [hsI_gb _ (by omega)] at h
  obtain ⟨m, hm, h1, h2⟩ := (orI_gb _ _ _ _).mp h
  have hst := of_decide_eq_true h1
  obtain ⟨t, ht, hg⟩ := (SI.all hS hm hst (by omega)).mp h2
  have hst2 : fi 13 m = 0 ∨ fi 13 m = 1 := by rw [(hS.mt hm).2.2.2.1]; exact hst
  obtain ⟨t1, t2, -⟩ := hS.2.2.2.2.1.2.2 m hm hst2 t ht
  rw [hS.la t1 (by omega) hg (by rw [t2]; decide)]
  exact t2
theorem SI.st0 (hS : SM c fi z sc ar) (hI : IV c (zN z 0) (zN z 1) (zN z 2) ar lq la P S Q M) {k : Nat} (hk : k < zN z 0) (h1 : hsI (orI (qB Q) (fun t => nI (P t)) (zN z 1)) (nI k) = false) (h2 : hsI (orI (plB ar) (fun m => allI (ar 11) m) (zN z 2)) (nI k) = false) : stC fi (zA z k) = 0 := by
  have hk2 := hS.np
  rw [hsI_gb _ (by omega)] at h1 h2
  cases hz : zA z k with
  | none => rfl
  | some p =>
    obtain ⟨p1, p2⟩ := hS.2.2.2.1.1 k hk p hz
    show fi 7 p = 0
    rcases (hS.pt p1).2.2.2.2.2.2.2.1 with q | q | q
    · exact q
    · have := (orI_gb (qB Q) (fun t => nI (P t)) k (zN z 1)).mpr ⟨p, p1, decide_eq_true ((SI.q1 hS hI p1).mpr q), by rw [← SI.p5 hS hI p1]; exact p2⟩
      rw [h1] at this; cases this
    · obtain ⟨m, m1, -, m3, m4⟩ := hS.2.2.2.2.1.1 p p1 q
      have m5 : ar 15 m = 0 ∨ ar 15 m = 1 := by rw [← (hS.mt m1).2.2.2.1]; exact m3
      have := (orI_gb (plB ar) (fun m => allI (ar 11) m) k (zN z 2)).mpr ⟨m, m1, decide_eq_true m5, (SI.all hS m1 m5 (by omega)).mpr ⟨p, m4, p2⟩⟩
      rw [h2] at this; cases this
/-- the law's fit is the class's -/
theorem SI.fit (hS : SM c fi z sc ar) (hI : IV c (zN z 0) (zN z 1) (zN z 2) ar lq la P S Q M) {t u : Nat} (ht : t < zN z 1) (hu : u < zN z 1) : ftI (nI c) (mnP fi (P t)) (mnP fi (P u)) (nI (S t)) (nI (S u)) = ftC fi z (fi 18 0) t u := by
  have hm : ∀ t, t < zN z 1 → mnP fi (P t) = mnC fi (zL z (11, t)) := fun t ht => by
    have h1 := (SI.len hS hI ht).1
    have h2 : (zL z (11, t)).length = (JQ (nI (P t)) 18).length := by rw [hS.J ht, SI.p5 hS hI ht]
    unfold mnP mnC
    rw [if_neg (by omega), h2, q_smC, q_smI, hS.J ht, SI.p5 hS hI ht]
  unfold ftI ftC
  rw [hm t ht, hm u hu, q_abs, ← SI.s6 hS hI ht, ← SI.s6 hS hI hu, ← hS.ck]
  rfl
theorem SI.bar (hI : IV c (zN z 0) (zN z 1) (zN z 2) ar lq la P S Q M) {W : Nat} (hW : W ≤ 200000) : (if (0 : Int32) < nI W - nI c then nI W - nI c else 0) = if nI W ≤ nI c then 0 else nI W - nI c := by
  have hc := hI.cc
  by_cases h : nI W ≤ nI c
  · rw [if_pos h]
    have h2 := (nI_leI (by omega) (by omega)).mp h
    by_cases h3 : W = c
    · subst h3
      rw [show nI W - nI W = 0 by rw [pk_sub (Nat.le_refl _), Nat.sub_self]; rfl, if_neg (by decide)]
    · rw [if_neg (Int32.not_lt.mpr (Int32.le_of_lt (pk_sneg (by omega) (by omega))))]
  · rw [if_neg h]
    have h2 := mt (nI_leI (a := W) (b := c) (by omega) (by omega)).mpr h
    rw [pk_sub (by omega), if_pos (show (0 : Int32) < nI (W - c) from nI_lt (a := 0) (by omega) (by omega))]
end SIV
