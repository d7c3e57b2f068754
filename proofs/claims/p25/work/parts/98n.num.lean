/-! ===== the law: wins ===== -/
theorem downI_8000 {x : Int32} (h1 : -400000 ≤ x.toInt) (h2 : x.toInt ≤ 400000) : downI x 8000 = (x + 8000000) / 8000 - 1000 := by
  have h8 : (8000 : Int32).toInt = 8000 := by decide
  have hm : (8000000 : Int32).toInt = 8000000 := by decide
  have ht : (1000 : Int32).toInt = 1000 := by decide
  have h0 : (0 : Int32).toInt = 0 := by decide
  have ho : (1 : Int32).toInt = 1 := by decide
  have e1 : (x + 8000000).toInt = x.toInt + 8000000 := by rw [Jvm.Kit.i32_add (by rw [hm]; omega) (by rw [hm]; omega), hm]
  have e2 : ((x + 8000000) / 8000).toInt = (x.toInt + 8000000) / 8000 := by rw [Jvm.Kit.i32_div (by rw [h8]; omega), e1, h8, Int.tdiv_eq_ediv_of_nonneg (by omega)]
  have e3 : ((x + 8000000) / 8000 - 1000).toInt = (x.toInt + 8000000) / 8000 - 1000 := by rw [Jvm.Kit.i32_sub (by rw [e2, ht]; omega) (by rw [e2, ht]; omega), e2, ht]
  have ed : (x / 8000).toInt = x.toInt.tdiv 8000 := by rw [Jvm.Kit.i32_div (by rw [h8]; omega), h8]
  have et : (0 ≤ x.toInt → (x / 8000).toInt = x.toInt / 8000) ∧ (¬ 0 ≤ x.toInt → (x / 8000).toInt = -((-x.toInt) / 8000)) := by
    rw [ed]
    refine ⟨fun q => Int.tdiv_eq_ediv_of_nonneg q, fun q => ?_⟩
    rw [← Int.tdiv_eq_ediv_of_nonneg (by omega), ← Int.neg_tdiv, Int.neg_neg]
  have eb : -100 ≤ (x / 8000).toInt ∧ (x / 8000).toInt ≤ 100 := by
    by_cases q : 0 ≤ x.toInt
    · rw [et.1 q]; omega
    · rw [et.2 q]; omega
  have em : (x / 8000 * 8000).toInt = (x / 8000).toInt * 8000 := by rw [Jvm.Kit.i32_mul (by rw [h8]; omega) (by rw [h8]; omega), h8]
  have er : (x - x / 8000 * 8000).toInt = x.toInt - (x / 8000).toInt * 8000 := by rw [Jvm.Kit.i32_sub (by rw [em]; omega) (by rw [em]; omega), em]
  have hz : ∀ y : Int32, y = 0 ↔ y.toInt = 0 := fun y => ⟨fun h => by rw [h, h0], fun h => Int32.toInt_inj.mp (h.trans h0.symm)⟩
  refine Int32.toInt_inj.mp ?_
  rw [e3]
  unfold downI
  by_cases hc : 0 ≤ x ∨ x - x / 8000 * 8000 = 0
  · rw [if_pos hc]
    rw [Int32.le_iff_toInt_le, h0, hz, er] at hc
    by_cases q : 0 ≤ x.toInt
    · rw [et.1 q]; omega
    · have e9 := et.2 q
      omega
  · rw [if_neg hc, Jvm.Kit.i32_sub (by rw [ho]; omega) (by rw [ho]; omega), ho]
    rw [Int32.le_iff_toInt_le, h0, hz, er] at hc
    by_cases q : 0 ≤ x.toInt
    · exact absurd (Or.inl q) hc
    · have e9 := et.2 q
      omega
/-- the law's share and the document's -/
theorem sh_bd {D : Nat} {y : Int32} (hD : D ≤ 350) (h1 : -1000 ≤ y.toInt) (h2 : y.toInt ≤ 1000) : -400000 ≤ (nI D * y).toInt ∧ (nI D * y).toInt ≤ 400000 := by
  have e : (nI D * y).toInt = D * y.toInt := by
    have a : (D : Int) * y.toInt ≤ 350 * 1000 := by
      rcases Int.le_total 0 y.toInt with h | h
      · exact Int.mul_le_mul (by omega) h2 h (by decide)
      · have : (D : Int) * y.toInt ≤ 0 := Int.mul_nonpos_of_nonneg_of_nonpos (by omega) h
        omega
    have b : -(350 * 1000) ≤ (D : Int) * y.toInt := by
      rcases Int.le_total 0 y.toInt with h | h
      · have : 0 ≤ (D : Int) * y.toInt := Int.mul_nonneg (by omega) h
        omega
      · have h9 : (D : Int) * (-y.toInt) ≤ 350 * 1000 := Int.mul_le_mul (by omega) (by omega) (by omega) (by decide)
        rw [Int.mul_neg] at h9
        omega
    rw [Jvm.Kit.i32_mul (by rw [nI_toInt (by omega)]; omega) (by rw [nI_toInt (by omega)]; omega), nI_toInt (by omega)]
  rw [e]
  rcases Int.le_total 0 y.toInt with h | h
  · have a : (D : Int) * y.toInt ≤ 350 * 1000 := Int.mul_le_mul (by omega) h2 h (by decide)
    have b : 0 ≤ (D : Int) * y.toInt := Int.mul_nonneg (by omega) h
    omega
  · have h9 : (D : Int) * (-y.toInt) ≤ 350 * 1000 := Int.mul_le_mul (by omega) (by omega) (by omega) (by decide)
    have b : (D : Int) * y.toInt ≤ 0 := Int.mul_nonpos_of_nonneg_of_nonpos (by omega) h
    rw [Int.mul_neg] at h9
    omega
theorem exI_bd (x : Int32) : 50 ≤ (exI x).toInt ∧ (exI x).toInt ≤ 950 := by
  unfold exI
  have h50 : (50 : Int32).toInt = 50 := by decide
  have h950 : (950 : Int32).toInt = 950 := by decide
  by_cases h : 50 ≤ x
  · rw [if_pos h]
    by_cases h2 : x ≤ 950
    · rw [if_pos h2]
      rw [Int32.le_iff_toInt_le, h50] at h
      rw [Int32.le_iff_toInt_le, h950] at h2
      exact ⟨h, h2⟩
    · rw [if_neg h2, h950]; omega
  · rw [if_neg h, h50]; omega
theorem shI_bd (t0 wn x : Int32) (k : Nat) : -1000 ≤ (shI t0 wn (exI x) k).toInt ∧ (shI t0 wn (exI x) k).toInt ≤ 1000 := by
  obtain ⟨h1, h2⟩ := exI_bd x
  have hb : ∀ a b : Int32, 0 ≤ a.toInt → a.toInt ≤ 1000 → 0 ≤ b.toInt → b.toInt ≤ 1000 → -1000 ≤ (a - b).toInt ∧ (a - b).toInt ≤ 1000 := fun a b a1 a2 b1 b2 => by
    rw [Jvm.Kit.i32_sub (by omega) (by omega)]
    omega
  have h1000 : (1000 : Int32).toInt = 1000 := by decide
  have e : (1000 - exI x).toInt = 1000 - (exI x).toInt := by
    rw [Jvm.Kit.i32_sub (by rw [h1000]; omega) (by rw [h1000]; omega), h1000]
  unfold shI
  refine hb _ _ ?_ ?_ ?_ ?_
  · split
    · rw [h1000]; decide
    · decide
  · split
    · rw [h1000]; decide
    · decide
  · split
    · omega
    · rw [e]; omega
  · split
    · omega
    · rw [e]; omega
/-! ===== the law's own arrays in wins and passes ===== -/
def TA (G : GG) (n : Nat) (B : Nat → Nat) (lt : Nat → Nat → Int32) (f : Wo) : Prop := ∀ j, j < n → f (B j) = some ((42, j), oI G 18 (lt j))
def FrT (f f' : Wo) : Prop := ∀ b x, f b = some x → x.1.1 ≠ 42 → f' b = some x
theorem FrT.rf {f : Wo} : FrT f f := fun _ _ h _ => h
theorem FrT.trans {f g h : Wo} (a : FrT f g) (b : FrT g h) : FrT f h := fun x y hx ht => b x y (a x y hx ht) ht
theorem TA.cg {G : GG} {n : Nat} {B : Nat → Nat} {lt lt' : Nat → Nat → Int32} {f : Wo} (h : TA G n B lt f) (e : ∀ j, j < n → lt' j = lt j) : TA G n B lt' f := fun j hj => by rw [e j hj]; exact h j hj
theorem TA.fc {G : GG} {n : Nat} {B : Nat → Nat} {lt : Nat → Nat → Int32} {f f' : Wo} (h : TA G n B lt f) (hF : FrC f f') : TA G n B lt f' := fun j hj => hF _ _ (h j hj) (by decide : 30 ≤ 42)
theorem TA.fa {G : GG} {n : Nat} {B : Nat → Nat} {lt : Nat → Nat → Int32} {f f' : Wo} (h : TA G n B lt f) (hF : FrA f f') : TA G n B lt f' := fun j hj => hF _ _ (h j hj) (by show 42 ≠ 41; decide)
theorem LA.ft {G : GG} {A : Nat → Nat} {lq : Nat → Int64} {la : Nat → Nat → Int32} {f f' : Wo} (h : LA G A lq la f) (hF : FrT f f') : LA G A lq la f' := ⟨hF _ _ h.1 (by show 41 ≠ 42; decide), fun i h1 h2 => hF _ _ (h.2 i h1 h2) (by show 41 ≠ 42; decide)⟩
theorem RC.keepT {G : GG} {al : Tg → Nat} {fi : Nat → Nat → Int32} {z : CZ} {f f' : Wo} (h : RC G al fi z f) (hk : FrT f f') : RC G al fi z f' := by
  obtain ⟨w, h1, h2, g0, h3⟩ := h
  refine ⟨w, fun q hq => ?_, fun q hq => ?_, g0, hk _ _ h3 (show (99 : Nat) ≠ 42 by decide)⟩
  · have := dom_lt hq
    exact hk _ _ (h1 q hq) (by show q.1 ≠ 42; omega)
  · have hlt := dol_lt hq
    obtain ⟨vs, hv⟩ := (h2 q hq).hd
    refine (h2 q hq).keep fun b x hb hx => ?_
    rcases hx with hx | hx | hx
    · subst hx
      rw [hv] at hb
      cases hb
      exact hk _ _ hv (by show q.1 ≠ 42; omega)
    · exact hk _ _ hb (by rw [hx]; exact (show (20 : Nat) ≠ 42 by decide))
    · exact hk _ _ hb (by rw [hx]; decide)
theorem TA.st {G : GG} {n : Nat} {B : Nat → Nat} {lt : Nat → Nat → Int32} {f : Wo} (h : TA G n B lt f) {j : Nat} (hj : j < n) (k : Nat) (x : Int32) : TA G n B (fu lt j k x) (w_up f (B j) (42, j) (oI G 18 (va_up (lt j) k x))) ∧ FrT f (w_up f (B j) (42, j) (oI G 18 (va_up (lt j) k x))) := by
  refine ⟨fun i hi => ?_, fun b x hb hx => (w_up_ne _ _ _ (fun q => by subst q; rw [h j hj] at hb; cases hb; exact hx rfl)).trans hb⟩
  by_cases he : i = j
  · subst he
    rw [w_up_self, show fu lt i k x i = va_up (lt i) k x from va_up_self _ _ _]
  · rw [w_up_ne _ _ _ (w_neT (h j hj) (h i hi) (fun e => by injection e with _ e; exact he e.symm)), h i hi, show fu lt j k x i = lt i from va_up_ne _ _ he]
section VT
variable {K : VK} {cc : ByteArray} {own : String} {Ts : List Cond} {nL fr lo : Nat} {f f0 : Wo} {kc ks pc : Nat} {lv lv' : List (Nat × Value)} {st : List Value} {B : Nat → Nat} {lt : Nat → Nat → Int32}
theorem V_taL (X : CX K cc own Ts nL fr lo) {n : Nat} (hT : TA (kG K) n B lt f) (j k : Nat) (hj : j < n) (hk : k < 18) {w : Int32} (hw : lt j k = w) (hdg : decode cc pc = .ok (.iaload, 1)) (kk : V K f kc ks (pc + 1) lv (.int w :: st)) : V K f kc ks pc lv (.int (nI k) :: .ref (B j) :: st) :=
  V_tld X (hT j hj) k hk (by decide) hw hdg kk
theorem V_taS (X : CX K cc own Ts nL fr lo) {n : Nat} (hT : TA (kG K) n B lt f) (j k : Nat) (hj : j < n) (hk : k < 18) {x : Int32} (hdg : decode cc pc = .ok (.iastore, 1)) (kk : ∀ f', TA (kG K) n B (fu lt j k x) f' → FrT f f' → V K f' kc ks (pc + 1) lv st) : V K f kc ks pc lv (.int x :: .int (nI k) :: .ref (B j) :: st) :=
  V_tst X (hT j hj) (by show 42 ≠ 99; decide) k hk (by decide) hdg (fun f' e => by subst e; exact kk _ (hT.st hj k x).1 (hT.st hj k x).2)
theorem V_newT (X : CX K cc own Ts nL fr lo) {kc' ks' N : Nat} {n : Int32} (t : Tg) (harr : Cond.arrayClass .int ∈ Ts) (hn : ¬ n < 0) (hN : n.toNatClampNeg = N) (hb : N * 4 ≤ 536870912) (hkc : kc' + 1 ≤ kc) (hks : ks' + N ≤ ks) (hdg : decode cc pc = .ok (.newarray .int, 2)) (k : ∀ (q : Nat) (f' : Wo), FrN f f' → f' q = some (t, oI (kG K) N (fun _ => 0)) → V K f' kc' ks' (pc + 2) lv (.ref q :: st)) : V K f kc ks pc lv (.int n :: st) :=
  V_newI X t harr hn hN hb hkc hks hdg (fun q hq => k q _ (FrN.rf.st hq _ _) (w_up_self _ _ _ _))
end VT
theorem clI_id {R : Nat} (h : R ≤ 4000) : clI (nI R) = nI R := by
  unfold clI
  rw [if_pos (nI_pos' (by omega)), if_pos (show nI R ≤ 4000 from nI_le (b := 4000) h (by decide))]
theorem clI_bd (x : Int32) : ∃ R, R ≤ 4000 ∧ clI x = nI R := by
  unfold clI
  by_cases h0 : 0 ≤ x
  · rw [if_pos h0]
    by_cases h1 : x ≤ 4000
    · rw [if_pos h1]
      exact nI_of2 (M := 4000) (n := 4000) rfl (Int32.not_lt.mpr h0) h1
    · rw [if_neg h1]; exact ⟨4000, Nat.le_refl _, rfl⟩
  · rw [if_neg h0]; exact ⟨0, Nat.zero_le _, rfl⟩
theorem nuI_bd {D : Nat} (h1 : 50 ≤ D) (h2 : D ≤ 350) : ∃ E, 50 ≤ E ∧ E ≤ 350 ∧ nuI (nI D) = nI E := by
  have e : nI D * 9 / 10 = nI (D * 9 / 10) := by rw [show (9 : Int32) = nI 9 from rfl, pk_mul, show (10 : Int32) = nI 10 from rfl, pk_div (by omega) (by decide) (by decide)]
  unfold nuI
  rw [e]
  by_cases h : 50 ≤ D * 9 / 10
  · rw [if_pos (show 50 ≤ nI (D * 9 / 10) from nI_le (a := 50) h (by omega))]
    exact ⟨_, h, by omega, rfl⟩
  · rw [if_neg (show ¬ 50 ≤ nI (D * 9 / 10) from fun q => h ((nI_leI (a := 50) (by decide) (by omega)).mp q))]
    exact ⟨50, Nat.le_refl _, by decide, rfl⟩
theorem sm_np {np : Nat} {s : Int32} {g h : Nat → Int32} (hb : q_bw np s) (hn : np ≤ 18) (e : ∀ k, k < np → g k = h k) : smI 18 s g = smI np s h := by
  rw [q_smI, q_smI, q_bw_J hb hn (by decide)]
  exact q_sL_cg fun k hk => e k (JQ_in hk)
