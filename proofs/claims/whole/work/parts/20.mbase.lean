/-! ===== the model's static helpers ===== -/
def bI (b : Bool) : Int32 := bif b then 1 else 0
theorem bI_nar (b : Bool) : narrow .boolean (.int (bI b)) = .int (bI b) := by cases b <;> decide
theorem bI_t {b : Bool} (h : b = true) : some (Value.int 1) = some (.int (bI b)) := by subst h; rfl
theorem bI_f {b : Bool} (h : b = false) : some (Value.int 0) = some (.int (bI b)) := by subst h; rfl
theorem bI_ne {b : Bool} : (bI b = 0) ↔ b = false := by cases b <;> decide
theorem bI_eq0 {b : Bool} (h : bI b = 0) : b = false := bI_ne.mp h
theorem bI_ne0 {b : Bool} (h : ¬ bI b = 0) : b = true := by cases b <;> simp_all [bI]
def hsI (s k : Int32) : Bool := decide ((s >>> (k &&& 31)) &&& 1 = 1)
def sumI (g : Nat → Int32) : Nat → Int32
  | 0 => 0
  | n + 1 => sumI g n + g n
def szI (s : Int32) : Int32 := sumI (fun k => (s >>> (nI k &&& 31)) &&& 1) 18
def inI (n a b : Int32) : Bool := decide (a ≤ n) && decide (n ≤ b)
def downI (n b : Int32) : Int32 := if 0 ≤ n ∨ n - n / b * b = 0 then n / b else n / b - 1
/-- a contract of a method that reads -/
abbrev Cp (l : Launch) (y : MethodName) (ws : List Cond) (fr lo : Nat) (G : GG) (as : List Value) (f : Wo) (v : Value) : Prop := Ct l y ws fr lo G as f (fun r f' => r = some v ∧ f' = f) 0 0
section VP
variable {K : VK} {cc : ByteArray} {own : String} {Ts : List Cond} {nL fr lo : Nat} {f : Wo} {kc ks pc : Nat} {lv lv' : List (Nat × Value)} {st : List Value}
theorem V_callSp (X : CX K cc own Ts nL fr lo) {y : MethodName} {ws ws' : List Cond} {fr' lo' index maxL : Nat} {bytes : ByteArray} {ret' : Option FieldType} {as rest : List Value} {v : Value} (hM : Cp (kL K) y ws fr' lo' (kG K) as f v) (hT : GoodIn Ts (va_wsS own index y ws)) (hw : ws = Cond.code y bytes maxL ret' :: ws') (hd : y.cls ≠ "java/lang/invoke/MethodHandle" ∧ y.cls ≠ "java/lang/invoke/VarHandle" ∧ (parseMethodDescriptor y.desc).map (fun d => d.parameters.length) = some as.length) (hfr : fr' + 1 ≤ fr) (hlo : 8 + (maxL + 11) + lo' ≤ lo) (hst : st = as.reverse ++ rest) (hcat : (rest.map fun v => v.category).sum ≤ 8) (hdg : decode cc pc = .ok (.invokestatic index, 3)) (kk : V K f kc ks (pc + 3) lv (v :: rest)) : V K f kc ks pc lv st :=
  V_callS (kc' := kc) (ks' := ks) X hM hT hw hd hfr hlo hst hcat (by omega) (by omega) hdg (fun r f' h => by obtain ⟨rfl, rfl⟩ := h; exact kk)
theorem V_callVp (X : CX K cc own Ts nL fr lo) {y : MethodName} {ws ws' : List Cond} {fr' lo' index maxL b : Nat} {bytes : ByteArray} {ret' : Option FieldType} {as rest : List Value} {v : Value} {C : String} {ci : Nat} {T : u_T} {N : Nat} {t : Tg} {fs : List Value} (hM : Cp (kL K) y ws fr' lo' (kG K) (.ref b :: as) f v) (hb : f b = some (t, .inr (ci, fs))) (hc : vwCl[ci]? = some (C, T, N)) (hT : GoodIn Ts (wsV own index C y ws)) (hw : ws = Cond.code y bytes maxL ret' :: ws') (hd : y.cls = C ∧ y.cls ≠ "java/lang/invoke/MethodHandle" ∧ y.cls ≠ "java/lang/invoke/VarHandle" ∧ (parseMethodDescriptor y.desc).map (fun d => d.parameters.length) = some as.length) (hfr : fr' + 1 ≤ fr) (hlo : 8 + (maxL + 11) + lo' ≤ lo) (hst : st = as.reverse ++ .ref b :: rest) (hcat : (rest.map fun v => v.category).sum ≤ 8) (hdg : decode cc pc = .ok (.invokevirtual index, 3)) (kk : V K f kc ks (pc + 3) lv (v :: rest)) : V K f kc ks pc lv st :=
  V_callV (kc' := kc) (ks' := ks) X hM hb hc hT hw hd hfr hlo hst hcat (by omega) (by omega) hdg (fun r f' h => by obtain ⟨rfl, rfl⟩ := h; exact kk)
end VP

theorem hs_ne {s k : Int32} (h : ¬ (s >>> (k &&& 31)) &&& 1 = 0) : hsI s k = true := by
  unfold hsI
  rw [decide_eq_true_eq]
  generalize s >>> (k &&& 31) = z at h ⊢
  rcases pk_andE z (m := 1) 1 (by decide) with ⟨j, hj, e⟩
  rw [e] at h ⊢
  have : j = 0 ∨ j = 1 := by omega
  rcases this with rfl | rfl
  · exact absurd rfl h
  · rfl
theorem hs_eq {s k : Int32} (h : (s >>> (k &&& 31)) &&& 1 = 0) : hsI s k = false := by
  unfold hsI
  rw [h]
  decide
/-! ===== the model's world: sc: its numbers (0 players, 1 parties, 2 matches, 3 clock, 4 many, 5 split, 6 difference, 7 thrown), ar: its arrays (1 rating, 2 uncertainty, 3 roles, 4 level, 5 state, 6 barredTo, 7 members, 8 since, 9 isQueuing, 10 matchOf, 11 teams, 12 uneven, 13 madeAt, 14 accepted, 15 matchState, 16 line) ===== -/
def mlen (i : Nat) : Nat := if i ≤ 6 then 18 else if i ≤ 10 then 100 else if i = 11 then 1200 else if i ≤ 15 then 600 else 18
def mobj (am : Nat → Nat) (sc : Nat → Int32) : List Value := [.int (sc 0), .ref (am 1), .ref (am 2), .ref (am 3), .ref (am 4), .ref (am 5), .ref (am 6), .int (sc 1), .ref (am 7), .ref (am 8), .ref (am 9), .ref (am 10), .int (sc 2), .ref (am 11), .ref (am 12), .ref (am 13), .ref (am 14), .ref (am 15), .int (sc 3), .int (sc 4), .ref (am 16), .int (sc 5), .int (sc 6), .int (sc 7)]
def RM (G : GG) (am : Nat → Nat) (sc : Nat → Int32) (ar : Nat → Nat → Int32) (f : Wo) : Prop := f (am 0) = some ((30, 0), oO 6 (mobj am sc)) ∧ (∀ i, 1 ≤ i → i ≤ 16 → i ≠ 9 → f (am i) = some ((30, i), oI G (mlen i) (ar i))) ∧ f (am 9) = some ((30, 9), oZ G 100 (ar 9))
def FrM (am : Nat → Nat) (f0 f : Wo) : Prop := ∀ a, (∀ i, i ≤ 16 → a ≠ am i) → f a = f0 a
theorem FrM.rf {am : Nat → Nat} {f : Wo} : FrM am f f := fun _ _ => rfl
theorem FrM.trans {am : Nat → Nat} {f g h : Wo} (a : FrM am f g) (b : FrM am g h) : FrM am f h := fun x hx => (b x hx).trans (a x hx)
theorem RM.any {G : GG} {am : Nat → Nat} {sc : Nat → Int32} {ar : Nat → Nat → Int32} {f : Wo} (h : RM G am sc ar f) {i : Nat} (hi : i ≤ 16) : ∃ e, f (am i) = some ((30, i), e) := by
  by_cases h0 : i = 0
  · subst h0; exact ⟨_, h.1⟩
  · by_cases h9 : i = 9
    · subst h9; exact ⟨_, h.2.2⟩
    · exact ⟨_, h.2.1 i (by omega) hi h9⟩
theorem RM.inj {G : GG} {am : Nat → Nat} {sc : Nat → Int32} {ar : Nat → Nat → Int32} {f : Wo} (h : RM G am sc ar f) {i j : Nat} (hi : i ≤ 16) (hj : j ≤ 16) (hne : j ≠ i) : am j ≠ am i := by
  obtain ⟨e1, h1⟩ := h.any hi
  obtain ⟨e2, h2⟩ := h.any hj
  exact w_neT h1 h2 (fun e => hne (congrArg Prod.snd e).symm)
theorem FrM.up {am : Nat → Nat} {f0 f : Wo} (h : FrM am f0 f) {i : Nat} (hi : i ≤ 16) {t : Tg} {e : va_E} : FrM am f0 (w_up f (am i) t e) := fun a ha => (w_up_ne _ _ _ (ha i hi)).trans (h a ha)
theorem RM.put {G : GG} {am : Nat → Nat} {sc : Nat → Int32} {ar : Nat → Nat → Int32} {f : Wo} (h : RM G am sc ar f) (sc' : Nat → Int32) : RM G am sc' ar (w_up f (am 0) (30, 0) (oO 6 (mobj am sc'))) :=
  ⟨w_up_self _ _ _ _, fun i h1 h2 h3 => (w_up_ne _ _ _ (h.inj (by omega) h2 (by omega))).trans (h.2.1 i h1 h2 h3), (w_up_ne _ _ _ (h.inj (by omega) (by omega) (by omega))).trans h.2.2⟩
theorem RM.ast {G : GG} {am : Nat → Nat} {sc : Nat → Int32} {ar : Nat → Nat → Int32} {f : Wo} (h : RM G am sc ar f) {i : Nat} (h1 : 1 ≤ i) (h2 : i ≤ 16) (h3 : i ≠ 9) (g : Nat → Int32) : RM G am sc (va_up ar i g) (w_up f (am i) (30, i) (oI G (mlen i) g)) := by
  refine ⟨(w_up_ne _ _ _ (h.inj h2 (by omega) (by omega))).trans h.1, fun j a1 a2 a3 => ?_, ?_⟩
  · by_cases hj : j = i
    · subst hj
      rw [w_up_self, va_up_self]
    · rw [w_up_ne _ _ _ (h.inj h2 a2 hj), va_up_ne _ _ hj]
      exact h.2.1 j a1 a2 a3
  · rw [w_up_ne _ _ _ (h.inj h2 (by omega) (fun e => h3 e.symm)), va_up_ne _ _ (fun e => h3 e.symm)]
    exact h.2.2
theorem RM.zst {G : GG} {am : Nat → Nat} {sc : Nat → Int32} {ar : Nat → Nat → Int32} {f : Wo} (h : RM G am sc ar f) (g : Nat → Int32) : RM G am sc (va_up ar 9 g) (w_up f (am 9) (30, 9) (oZ G 100 g)) := by
  refine ⟨(w_up_ne _ _ _ (h.inj (by omega) (by omega) (by omega))).trans h.1, fun j a1 a2 a3 => ?_, ?_⟩
  · rw [w_up_ne _ _ _ (h.inj (by omega) a2 a3), va_up_ne _ _ a3]
    exact h.2.1 j a1 a2 a3
  · rw [w_up_self, va_up_self]
theorem lim_ge {i N : Nat} {x : Int32} (hx : x = nI N) (h : x ≤ nI i) (hi : i ≤ N) (hN : N < 2 ^ 31) : i = N := by
  subst hx
  have := (nI_leI (a := N) (b := i) hN (by omega)).mp h
  omega
theorem lim_lt {i N : Nat} {x : Int32} (hx : x = nI N) (h : ¬ x ≤ nI i) (hi : i ≤ N) (hN : N < 2 ^ 31) : i < N := by
  subst hx
  have := mt (nI_leI (a := N) (b := i) hN (by omega)).mpr h
  omega
section VM
variable {K : VK} {cc : ByteArray} {own : String} {Ts : List Cond} {nL fr lo : Nat} {f f0 : Wo} {kc ks pc : Nat} {lv lv' : List (Nat × Value)} {st : List Value} {am : Nat → Nat} {sc : Nat → Int32} {ar : Nat → Nat → Int32}
theorem V_mget (X : CX K cc own Ts nL fr lo) (hR : RM (kG K) am sc ar f) {index : Nat} {v : Value} (k0 : Nat) (hk : k0 < 24) (hin : ∀ w ∈ wsX60, w ∈ Ts) (hv : (mobj am sc)[k0]? = some v) (hlink : Cond.fieldLink own index "LobbyMakerModel" (TX6 k0).2.1 (TX6 k0).2.2.1 ∈ Ts) (ho : (TX6 k0).1 = "LobbyMakerModel") (hdg : decode cc pc = .ok (.getfield index, 3)) (k : V K f kc ks (pc + 3) lv (v :: st)) : V K f kc ks pc lv (.ref (am 0) :: st) :=
  V_get X (C := RX6) (T := TX6) (N := 24) k0 hR.1 rfl hin hk hlink (fun _ h9 => by rw [ho] at h9; exact h9) hv hdg k
theorem V_mput (X : CX K cc own Ts nL fr lo) (hR : RM (kG K) am sc ar f) (hF : FrM am f0 f) {index : Nat} {x : Int32} (j k0 : Nat) (hk : k0 < 24) (hin : ∀ w ∈ wsX60, w ∈ Ts) (hfs : (mobj am sc).set k0 (.int x) = mobj am (va_up sc j x)) (hlink : Cond.fieldLink own index "LobbyMakerModel" (TX6 k0).2.1 (TX6 k0).2.2.1 ∈ Ts) (ho : (TX6 k0).1 = "LobbyMakerModel") (hfin : (TX6 k0).2.2.2 = false) (hty : tyX6 k0 = .int) (hdg : decode cc pc = .ok (.putfield index, 3)) (k : ∀ f' : Wo, RM (kG K) am (va_up sc j x) ar f' → FrM am f0 f' → V K f' kc ks (pc + 3) lv st) : V K f kc ks pc lv (.int x :: .ref (am 0) :: st) :=
  V_put X (C := RX6) (T := TX6) (N := 24) (fs' := mobj am (va_up sc j x)) k0 hR.1 (by show (30 : Nat) ≠ 99; omega) rfl hin tyX6_ok nmX6 hk hlink (fun _ h9 => by rw [ho] at h9; exact h9) hfin hty rfl rfl (by show k0 < 24; exact hk) hfs hdg (k _ (hR.put _) (hF.up (by omega)))
theorem V_mald (X : CX K cc own Ts nL fr lo) (hR : RM (kG K) am sc ar f) (i k N : Nat) (hi : 1 ≤ i ∧ i ≤ 16 ∧ i ≠ 9) (hN : mlen i = N) (hk : k < N) (hN2 : N < 2 ^ 31) {w : Int32} (hw : ar i k = w) (hdg : decode cc pc = .ok (.iaload, 1)) (kk : V K f kc ks (pc + 1) lv (.int w :: st)) : V K f kc ks pc lv (.int (nI k) :: .ref (am i) :: st) := by
  subst hN; subst hw
  refine V_iald X (hR.2.1 i hi.1 hi.2.1 hi.2.2) (vp_in_nI hk hN2) hdg ?_
  rw [nI_clamp (Nat.lt_trans hk hN2)]
  exact kk
theorem V_mzld (X : CX K cc own Ts nL fr lo) (hR : RM (kG K) am sc ar f) (k : Nat) (hk : k < 100) {w : Int32} (hw : ar 9 k = w) (hdg : decode cc pc = .ok (.baload, 1)) (kk : V K f kc ks (pc + 1) lv (.int w :: st)) : V K f kc ks pc lv (.int (nI k) :: .ref (am 9) :: st) := by
  subst hw
  refine V_zald X hR.2.2 (vp_in_nI hk (by omega)) hdg ?_
  rw [nI_clamp (by omega)]
  exact kk
theorem V_mast (X : CX K cc own Ts nL fr lo) (hR : RM (kG K) am sc ar f) (hF : FrM am f0 f) (i k N : Nat) (hi : 1 ≤ i ∧ i ≤ 16 ∧ i ≠ 9) (hN : mlen i = N) (hk : k < N) (hN2 : N < 2 ^ 31) {x : Int32} (hdg : decode cc pc = .ok (.iastore, 1)) (kk : ∀ f' : Wo, RM (kG K) am sc (va_up ar i (va_up (ar i) k x)) f' → FrM am f0 f' → V K f' kc ks (pc + 1) lv st) : V K f kc ks pc lv (.int x :: .int (nI k) :: .ref (am i) :: st) := by
  subst hN
  refine V_iast X (hR.2.1 i hi.1 hi.2.1 hi.2.2) (by show (30 : Nat) ≠ 99; omega) (vp_in_nI hk hN2) hdg ?_
  rw [nI_clamp (Nat.lt_trans hk hN2)]
  exact kk _ (hR.ast hi.1 hi.2.1 hi.2.2 _) (hF.up hi.2.1)
theorem V_mzst (X : CX K cc own Ts nL fr lo) (hR : RM (kG K) am sc ar f) (hF : FrM am f0 f) (k : Nat) (hk : k < 100) {x : Int32} (hx : narrow .boolean (.int x) = .int x) (hdg : decode cc pc = .ok (.bastore, 1)) (kk : ∀ f' : Wo, RM (kG K) am sc (va_up ar 9 (va_up (ar 9) k x)) f' → FrM am f0 f' → V K f' kc ks (pc + 1) lv st) : V K f kc ks pc lv (.int x :: .int (nI k) :: .ref (am 9) :: st) := by
  refine V_zast X hR.2.2 (by show (30 : Nat) ≠ 99; omega) (vp_in_nI hk (by omega)) hx hdg ?_
  rw [nI_clamp (by omega)]
  exact kk _ (hR.zst _) (hF.up (by omega))
end VM
