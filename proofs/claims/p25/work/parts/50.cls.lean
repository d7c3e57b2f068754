/-! ===== the class's world: fi: its numbers by field and index (players: 0 roles, 1 points, 2 doubt, 3 level, 4 barred; parties: 5 players, 6 since, 7 standing, 8 counts; matches: 9, 10 teams, 11 gap, 12 deadline, 13 stage, 14 awaited; draft: 15, 16 teams, 17 gap; 18 now); z: lists, latest parties, how many, capacities; al: addresses by tag (0 player, 1 party, 2 match, 11 members, 12 parties of a match, 13 the lists, 14 draft, 15 the object) ===== -/
abbrev CZ : Type := (Tg → List Nat) × (Nat → Option Nat) × (Nat → Nat) × (Tg → Nat)
def zL (z : CZ) : Tg → List Nat := z.1
def zA (z : CZ) : Nat → Option Nat := z.2.1
def zN (z : CZ) : Nat → Nat := z.2.2.1
def zC (z : CZ) : Tg → Nat := z.2.2.2
def ek (q : Tg) : Nat := if q.1 = 11 then 0 else if q.1 = 12 then 1 else if q.2 = 0 then 0 else if q.2 = 2 then 2 else 1
def dom (n : Nat → Nat) (q : Tg) : Prop := (q.1 ≤ 2 ∧ q.2 < n q.1) ∨ ((q.1 = 14 ∨ q.1 = 15) ∧ q.2 = 0)
def dol (n : Nat → Nat) (q : Tg) : Prop := (q.1 = 11 ∧ q.2 < n 1) ∨ (q.1 = 12 ∧ q.2 < n 2) ∨ (q.1 = 13 ∧ q.2 < 5)
def laR (al : Tg → Nat) : Option Nat → Value
  | none => .null
  | some p => .ref (al (1, p))
def fsC (al : Tg → Nat) (fi : Nat → Nat → Int32) (la : Nat → Option Nat) (q : Tg) : List Value :=
  match q.1 with
  | 0 => [.int (fi 0 q.2), .int (fi 1 q.2), .int (fi 2 q.2), .int (fi 3 q.2), .int (fi 4 q.2), laR al (la q.2)]
  | 1 => [.int (fi 5 q.2), .int (fi 6 q.2), .ref (al (11, q.2)), .int (fi 7 q.2), .int (fi 8 q.2)]
  | 2 => [.int (fi 9 q.2), .int (fi 10 q.2), .int (fi 11 q.2), .int (fi 12 q.2), .ref (al (12, q.2)), .int (fi 13 q.2), .int (fi 14 q.2)]
  | 14 => [.ref (al (13, 3)), .ref (al (13, 4)), .int (fi 15 q.2), .int (fi 16 q.2), .int (fi 17 q.2)]
  | 15 => [.ref (al (13, 0)), .ref (al (13, 1)), .ref (al (13, 2)), .ref (al (14, 0)), .int (fi 18 q.2)]
  | _ => []
def ciC (q : Tg) : Nat := match q.1 with
  | 0 => 4
  | 1 => 3
  | 2 => 2
  | 14 => 1
  | _ => 5
def lst (al : Tg → Nat) (L : Tg → List Nat) (q : Tg) : List Nat := (L q).map (fun i => al (ek q, i))
/-- the class's shape: elements there are, the main lists count, capacities are small -/
def WF (z : CZ) : Prop := (∀ q, dol (zN z) q → ∀ j ∈ zL z q, j < zN z (ek q)) ∧ (∀ k, k < zN z 0 → ∀ p, zA z k = some p → p < zN z 1) ∧ (∀ j, j < 3 → zL z (13, j) = List.range (zN z j)) ∧ (∀ q, dol (zN z) q → zC z q ≤ 1000) ∧ (∀ j, j < 3 → zN z j ≤ 1000)
def RC (G : GG) (al : Tg → Nat) (fi : Nat → Nat → Int32) (z : CZ) (f : Wo) : Prop := WF z ∧ (∀ q, dom (zN z) q → f (al q) = some (q, oO (ciC q) (fsC al fi (zA z) q))) ∧ (∀ q, dol (zN z) q → AL G f (al q) q (zC z q) (lst al (zL z) q)) ∧ ∃ g0, f (gE G) = some ((99, 0), oQ G 0 g0)
/-- what the class leaves alone -/
def FrC (f f' : Wo) : Prop := ∀ b x, f b = some x → 30 ≤ x.1.1 → f' b = some x
theorem FrC.rf {f : Wo} : FrC f f := fun _ _ h _ => h
theorem FrC.trans {f g h : Wo} (a : FrC f g) (b : FrC g h) : FrC f h := fun x y hx ht => b x y (a x y hx ht) ht
def okn (j : Nat) : Nat := if j ≤ 4 then 0 else if j ≤ 8 then 1 else if j ≤ 14 then 2 else if j ≤ 17 then 14 else 15
def fu (fi : Nat → Nat → Int32) (j k : Nat) (x : Int32) : Nat → Nat → Int32 := va_up fi j (va_up (fi j) k x)
theorem fu_self (fi : Nat → Nat → Int32) (j k : Nat) (x : Int32) : fu fi j k x j k = x := by unfold fu; rw [va_up_self, va_up_self]
theorem fu_ne (fi : Nat → Nat → Int32) {j k a b : Nat} (x : Int32) (h : a ≠ j ∨ b ≠ k) : fu fi j k x a b = fi a b := by
  unfold fu
  by_cases ha : a = j
  · subst ha
    rw [va_up_self, va_up_ne _ _ (h.resolve_left (fun z => z rfl))]
  · rw [va_up_ne _ _ ha]
theorem fsC_ne (al : Tg → Nat) (fi : Nat → Nat → Int32) (la : Nat → Option Nat) {j k : Nat} (x : Int32) {q : Tg} (h : q ≠ (okn j, k)) : fsC al (fu fi j k x) la q = fsC al fi la q := by
  obtain ⟨a, b⟩ := q
  have hh : ∀ i, okn i = a → fu fi j k x i b = fi i b := fun i hi => fu_ne fi x (by
    by_cases hij : i = j
    · refine Or.inr fun hb => h ?_
      rw [hb, ← hi, hij]
    · exact Or.inl hij)
  unfold fsC
  match a with
  | 0 => simp only [hh 0 rfl, hh 1 rfl, hh 2 rfl, hh 3 rfl, hh 4 rfl]
  | 1 => simp only [hh 5 rfl, hh 6 rfl, hh 7 rfl, hh 8 rfl]
  | 2 => simp only [hh 9 rfl, hh 10 rfl, hh 11 rfl, hh 12 rfl, hh 13 rfl, hh 14 rfl]
  | 14 => simp only [hh 15 rfl, hh 16 rfl, hh 17 rfl]
  | 15 => simp only [hh 18 rfl]
  | 3 | 4 | 5 | 6 | 7 | 8 | 9 | 10 | 11 | 12 | 13 => rfl
  | n + 16 => rfl
theorem AL.keep {G : GG} {f f' : Wo} {a cap : Nat} {t : Tg} {xs : List Nat} (h : AL G f a t cap xs) (hk : ∀ b x, f b = some x → (b = a ∨ x.1 = (20, a) ∨ x.1 = (99, 0)) → f' b = some x) : AL G f' a t cap xs := by
  obtain ⟨md, d, g, h1, h2, h3⟩ := h
  refine ⟨md, d, g, hk _ _ h1 (Or.inl rfl), hk _ _ h2 ?_, h3⟩
  by_cases hc : cap = 0
  · rw [if_pos hc]; exact Or.inr (Or.inr rfl)
  · rw [if_neg hc]; exact Or.inr (Or.inl rfl)
theorem AL.hd {G : GG} {f : Wo} {a cap : Nat} {t : Tg} {xs : List Nat} (h : AL G f a t cap xs) : ∃ vs, f a = some (t, oO 0 vs) := ⟨_, h.choose_spec.choose_spec.choose_spec.1⟩
theorem AL.le {G : GG} {f : Wo} {a cap : Nat} {t : Tg} {xs : List Nat} (h : AL G f a t cap xs) : xs.length ≤ cap := h.choose_spec.choose_spec.choose_spec.2.2.2.1
theorem dom_ne {n m : Nat → Nat} {q p : Tg} (h : dom n q) (h2 : dol m p) : q ≠ p := fun e => by
  subst e
  rcases h with ⟨a, -⟩ | ⟨a, -⟩ <;> rcases h2 with ⟨b, -⟩ | ⟨b, -⟩ | ⟨b, -⟩ <;> omega
theorem dom_lt {n : Nat → Nat} {q : Tg} (h : dom n q) : q.1 < 20 := by
  rcases h with ⟨a, -⟩ | ⟨a, -⟩ <;> omega
theorem dol_lt {n : Nat → Nat} {q : Tg} (h : dol n q) : q.1 < 20 := by
  rcases h with ⟨a, -⟩ | ⟨a, -⟩ | ⟨a, -⟩ <;> omega
theorem FrC.up {f : Wo} {a : Nat} {t u : Tg} {e e' : va_E} (h : f a = some (t, e')) (ht : t.1 < 20) : FrC f (w_up f a u e) := fun b x hb hx => (w_up_ne _ _ _ (fun z => by subst z; rw [h] at hb; cases hb; have h3 : 30 ≤ t.1 := hx; omega)).trans hb
/-- an object's cell is written anew -/
theorem RC.cell {G : GG} {al : Tg → Nat} {fi fi' : Nat → Nat → Int32} {z : CZ} {la' : Nat → Option Nat} {f : Wo} (h : RC G al fi z f) {q : Tg} (hd : dom (zN z) q) (hW : ∀ k, k < zN z 0 → ∀ p, la' k = some p → p < zN z 1) (hn : ∀ p, dom (zN z) p → p ≠ q → fsC al fi' la' p = fsC al fi (zA z) p) : RC G al fi' (zL z, la', zN z, zC z) (w_up f (al q) q (oO (ciC q) (fsC al fi' la' q))) ∧ FrC f (w_up f (al q) q (oO (ciC q) (fsC al fi' la' q))) := by
  obtain ⟨⟨w1, w2, w3, w4⟩, h1, h2, g0, h3⟩ := h
  refine ⟨⟨⟨w1, hW, w3, w4⟩, fun p hp => ?_, fun p hp => ?_, g0, ?_⟩, FrC.up (h1 q hd) (dom_lt hd)⟩
  · by_cases hpq : p = q
    · subst hpq; exact w_up_self _ _ _ _
    · rw [w_up_ne _ _ _ (w_neT (h1 q hd) (h1 p hp) (fun e => hpq e.symm))]
      show _ = some (p, oO (ciC p) (fsC al fi' la' p))
      rw [hn p hp hpq]
      exact h1 p hp
  · refine (h2 p hp).keep fun b x hb hx => (w_up_ne _ _ _ ?_).trans hb
    rcases hx with hx | hx | hx
    · subst hx
      obtain ⟨vs, hv⟩ := (h2 p hp).hd
      exact w_neT (h1 q hd) hv (dom_ne hd hp)
    · exact fun e => by
        subst e
        rw [h1 q hd] at hb
        cases hb
        have := dom_lt hd
        rw [show q = (20, _) from hx] at this
        omega
    · exact fun e => by
        subst e
        rw [h1 q hd] at hb
        cases hb
        have := dom_lt hd
        rw [show q = (99, 0) from hx] at this
        omega
  · exact (w_up_ne _ _ _ (w_neT (h1 q hd) h3 (fun e => by have := dom_lt hd; rw [e] at this; omega))).trans h3
theorem RC.put {G : GG} {al : Tg → Nat} {fi : Nat → Nat → Int32} {z : CZ} {f : Wo} (h : RC G al fi z f) (j k : Nat) (x : Int32) (hd : dom (zN z) (okn j, k)) : RC G al (fu fi j k x) z (w_up f (al (okn j, k)) (okn j, k) (oO (ciC (okn j, k)) (fsC al (fu fi j k x) (zA z) (okn j, k)))) ∧ FrC f (w_up f (al (okn j, k)) (okn j, k) (oO (ciC (okn j, k)) (fsC al (fu fi j k x) (zA z) (okn j, k)))) := h.cell hd h.1.2.1 (fun _ _ hp => fsC_ne al fi _ x hp)

theorem fst_0 (al : Tg → Nat) (fi : Nat → Nat → Int32) (la : Nat → Option Nat) (k : Nat) (x : Int32) : (fsC al fi la (okn 0, k)).set 0 (.int x) = fsC al (fu fi 0 k x) la (okn 0, k) := by simp [fsC, okn, fu, va_up]
theorem fst_1 (al : Tg → Nat) (fi : Nat → Nat → Int32) (la : Nat → Option Nat) (k : Nat) (x : Int32) : (fsC al fi la (okn 1, k)).set 1 (.int x) = fsC al (fu fi 1 k x) la (okn 1, k) := by simp [fsC, okn, fu, va_up]
theorem fst_2 (al : Tg → Nat) (fi : Nat → Nat → Int32) (la : Nat → Option Nat) (k : Nat) (x : Int32) : (fsC al fi la (okn 2, k)).set 2 (.int x) = fsC al (fu fi 2 k x) la (okn 2, k) := by simp [fsC, okn, fu, va_up]
theorem fst_3 (al : Tg → Nat) (fi : Nat → Nat → Int32) (la : Nat → Option Nat) (k : Nat) (x : Int32) : (fsC al fi la (okn 3, k)).set 3 (.int x) = fsC al (fu fi 3 k x) la (okn 3, k) := by simp [fsC, okn, fu, va_up]
theorem fst_4 (al : Tg → Nat) (fi : Nat → Nat → Int32) (la : Nat → Option Nat) (k : Nat) (x : Int32) : (fsC al fi la (okn 4, k)).set 4 (.int x) = fsC al (fu fi 4 k x) la (okn 4, k) := by simp [fsC, okn, fu, va_up]
theorem fst_5 (al : Tg → Nat) (fi : Nat → Nat → Int32) (la : Nat → Option Nat) (k : Nat) (x : Int32) : (fsC al fi la (okn 5, k)).set 0 (.int x) = fsC al (fu fi 5 k x) la (okn 5, k) := by simp [fsC, okn, fu, va_up]
theorem fst_6 (al : Tg → Nat) (fi : Nat → Nat → Int32) (la : Nat → Option Nat) (k : Nat) (x : Int32) : (fsC al fi la (okn 6, k)).set 1 (.int x) = fsC al (fu fi 6 k x) la (okn 6, k) := by simp [fsC, okn, fu, va_up]
theorem fst_7 (al : Tg → Nat) (fi : Nat → Nat → Int32) (la : Nat → Option Nat) (k : Nat) (x : Int32) : (fsC al fi la (okn 7, k)).set 3 (.int x) = fsC al (fu fi 7 k x) la (okn 7, k) := by simp [fsC, okn, fu, va_up]
theorem fst_8 (al : Tg → Nat) (fi : Nat → Nat → Int32) (la : Nat → Option Nat) (k : Nat) (x : Int32) : (fsC al fi la (okn 8, k)).set 4 (.int x) = fsC al (fu fi 8 k x) la (okn 8, k) := by simp [fsC, okn, fu, va_up]
theorem fst_9 (al : Tg → Nat) (fi : Nat → Nat → Int32) (la : Nat → Option Nat) (k : Nat) (x : Int32) : (fsC al fi la (okn 9, k)).set 0 (.int x) = fsC al (fu fi 9 k x) la (okn 9, k) := by simp [fsC, okn, fu, va_up]
theorem fst_10 (al : Tg → Nat) (fi : Nat → Nat → Int32) (la : Nat → Option Nat) (k : Nat) (x : Int32) : (fsC al fi la (okn 10, k)).set 1 (.int x) = fsC al (fu fi 10 k x) la (okn 10, k) := by simp [fsC, okn, fu, va_up]
theorem fst_11 (al : Tg → Nat) (fi : Nat → Nat → Int32) (la : Nat → Option Nat) (k : Nat) (x : Int32) : (fsC al fi la (okn 11, k)).set 2 (.int x) = fsC al (fu fi 11 k x) la (okn 11, k) := by simp [fsC, okn, fu, va_up]
theorem fst_12 (al : Tg → Nat) (fi : Nat → Nat → Int32) (la : Nat → Option Nat) (k : Nat) (x : Int32) : (fsC al fi la (okn 12, k)).set 3 (.int x) = fsC al (fu fi 12 k x) la (okn 12, k) := by simp [fsC, okn, fu, va_up]
theorem fst_13 (al : Tg → Nat) (fi : Nat → Nat → Int32) (la : Nat → Option Nat) (k : Nat) (x : Int32) : (fsC al fi la (okn 13, k)).set 5 (.int x) = fsC al (fu fi 13 k x) la (okn 13, k) := by simp [fsC, okn, fu, va_up]
theorem fst_14 (al : Tg → Nat) (fi : Nat → Nat → Int32) (la : Nat → Option Nat) (k : Nat) (x : Int32) : (fsC al fi la (okn 14, k)).set 6 (.int x) = fsC al (fu fi 14 k x) la (okn 14, k) := by simp [fsC, okn, fu, va_up]
theorem fst_15 (al : Tg → Nat) (fi : Nat → Nat → Int32) (la : Nat → Option Nat) (k : Nat) (x : Int32) : (fsC al fi la (okn 15, k)).set 2 (.int x) = fsC al (fu fi 15 k x) la (okn 15, k) := by simp [fsC, okn, fu, va_up]
theorem fst_16 (al : Tg → Nat) (fi : Nat → Nat → Int32) (la : Nat → Option Nat) (k : Nat) (x : Int32) : (fsC al fi la (okn 16, k)).set 3 (.int x) = fsC al (fu fi 16 k x) la (okn 16, k) := by simp [fsC, okn, fu, va_up]
theorem fst_17 (al : Tg → Nat) (fi : Nat → Nat → Int32) (la : Nat → Option Nat) (k : Nat) (x : Int32) : (fsC al fi la (okn 17, k)).set 4 (.int x) = fsC al (fu fi 17 k x) la (okn 17, k) := by simp [fsC, okn, fu, va_up]
theorem fst_18 (al : Tg → Nat) (fi : Nat → Nat → Int32) (la : Nat → Option Nat) (k : Nat) (x : Int32) : (fsC al fi la (okn 18, k)).set 4 (.int x) = fsC al (fu fi 18 k x) la (okn 18, k) := by simp [fsC, okn, fu, va_up]
section VC
variable {K : VK} {cc : ByteArray} {own : String} {Ts : List Cond} {nL fr lo : Nat} {f f0 : Wo} {kc ks pc : Nat} {lv lv' : List (Nat × Value)} {st : List Value} {al : Tg → Nat} {fi : Nat → Nat → Int32} {z : CZ}
theorem V_cput (X : CX K cc own Ts nL fr lo) (hR : RC (kG K) al fi z f) (hF : FrC f0 f) {ref C : String} {T : u_T} {N index : Nat} {ty0 : Nat → FieldType} {x : Int32} (j k k0 : Nat) (hd : dom (zN z) (okn j, k)) (hc : vwCl[ciC (okn j, k)]? = some (C, T, N)) (hin : ∀ w ∈ u_ws C T N, w ∈ Ts) (hty : ∀ k, k < N → parseFieldDescriptor (T k).2.2.1 = some (ty0 k)) (hnm : ∀ a, a < N → ∀ b, b < N → a ≠ b → (T a).2.1 ≠ (T b).2.1) (hk : k0 < N) (hlink : Cond.fieldLink own index ref (T k0).2.1 (T k0).2.2.1 ∈ Ts) (hsame : ∀ x, (kS K).fieldFound? (T k0).1 (T k0).2.1 (T k0).2.2.1 = some x → (kS K).fieldFound? ref (T k0).2.1 (T k0).2.2.1 = some x) (hfin : (T k0).2.2.2 = false) (hd2 : ty0 k0 = .int) (hl : k0 < (fsC al fi (zA z) (okn j, k)).length) (hfs : (fsC al fi (zA z) (okn j, k)).set k0 (.int x) = fsC al (fu fi j k x) (zA z) (okn j, k)) (hdg : decode cc pc = .ok (.putfield index, 3)) (kk : ∀ f' : Wo, RC (kG K) al (fu fi j k x) z f' → FrC f0 f' → V K f' kc ks (pc + 3) lv st) : V K f kc ks pc lv (.int x :: .ref (al (okn j, k)) :: st) :=
  V_put X k0 (hR.2.1 _ hd) (by have := dom_lt hd; omega) hc hin hty hnm hk hlink hsame hfin hd2 rfl rfl hl hfs hdg (kk _ (hR.put j k x hd).1 (hF.trans (hR.put j k x hd).2))
theorem RC.lat {G : GG} (hR : RC G al fi z f) {q : Tg} (hq : dol (zN z) q) : ∃ vs, f (al q) = some (q, oO 0 vs) := (hR.2.2.1 q hq).hd
theorem RC.cap {G : GG} (hR : RC G al fi z f) {q : Tg} (hq : dol (zN z) q) : zC z q ≤ 1000 ∧ (zL z q).length ≤ zC z q := ⟨hR.1.2.2.2.1 q hq, by have := (hR.2.2.1 q hq).le; rwa [lst, List.length_map] at this⟩
theorem V_csize (X : CX K cc own Ts nL fr lo) (hR : RC (kG K) al fi z f) {rest : List Value} {index : Nat} (q : Tg) (hq : dol (zN z) q) (hT : GoodIn Ts (wsV own index RJx4a65c yJx4a65c_size_8abf5 wsJx4a65c_size_8abf5)) (hfr : 1 + 1 ≤ fr) (hlo : 8 + (1 + 11) + 44 ≤ lo) (hcat : (rest.map fun v => v.category).sum ≤ 8) (hdg : decode cc pc = .ok (.invokevirtual index, 3)) (kk : V K f kc ks (pc + 3) lv (.int (nI (zL z q).length) :: rest)) : V K f kc ks pc lv (.ref (al q) :: rest) := by
  obtain ⟨vs, hb⟩ := hR.lat hq
  refine V_callVp X (rest := rest) (c_Jx4a65c_size_8abf5 _ _ _ (al q) q _ _ (hR.2.2.1 q hq)) hb rfl hT rfl hdv_Jx4a65c_size_8abf5 hfr hlo rfl hcat hdg ?_
  rw [lst, List.length_map]
  exact kk
theorem RC.nth {G : GG} (hR : RC G al fi z f) {q : Tg} {i j : Nat} (hi : (zL z q)[i]? = some j) : (lst al (zL z) q)[i]? = some (al (ek q, j)) := by rw [lst, List.getElem?_map, hi]; rfl
theorem V_cnth (X : CX K cc own Ts nL fr lo) (hR : RC (kG K) al fi z f) {rest : List Value} {index : Nat} (q : Tg) (hq : dol (zN z) q) (i j : Nat) (hi : (zL z q)[i]? = some j) (hT : GoodIn Ts (wsV own index RJx4a65c yJx4a65c_get_915e3 wsJx4a65c_get_915e3)) (hfr : 8 + 1 ≤ fr) (hlo : 8 + (2 + 11) + 139 ≤ lo) (hcat : (rest.map fun v => v.category).sum ≤ 8) (hdg : decode cc pc = .ok (.invokevirtual index, 3)) (kk : V K f kc ks (pc + 3) lv (.ref (al (ek q, j)) :: rest)) : V K f kc ks pc lv (.int (nI i) :: .ref (al q) :: rest) := by
  obtain ⟨vs, hb⟩ := hR.lat hq
  exact V_callVp X (rest := rest) (c_Jx4a65c_get_915e3 _ _ _ (al q) q _ _ (hR.2.2.1 q hq) (by have := (hR.cap hq).1; omega) i _ (hR.nth hi)) hb rfl hT rfl hdv_Jx4a65c_get_915e3 hfr hlo rfl hcat hdg kk
end VC
