/-! ===== one operation of the script: the frames ===== -/
theorem Ct.mono {l : Launch} {y : MethodName} {ws : List Cond} {fr lo mc ms : Nat} {G : GG} {as : List Value} {f : Wo} {post post' : Option Value → Wo → Prop} (h : Ct l y ws fr lo G as f post mc ms) (hp : ∀ r f', post r f' → post' r f') : Ct l y ws fr lo G as f post' mc ms := by
  have h9 : MetFree l y (headSpec ws (rmk fr lo mc ms)) (CP G as f) (fun _ _ _ _ _ => True) (fun a st o t => CQ G post a st o t ∧ ∃ L, FrameEnd st o t L mc ms ∧ ∀ q ∈ L, gA G q.base) := h
  show MetFree l y (headSpec ws (rmk fr lo mc ms)) (CP G as f) (fun _ _ _ _ _ => True) (fun a st o t => CQ G post' a st o t ∧ ∃ L, FrameEnd st o t L mc ms ∧ ∀ q ∈ L, gA G q.base)
  exact Jvm.Free.MetFree.mono h9 (fun _ _ q => q) (fun _ _ _ _ _ q => q) (fun _ _ _ _ _ q => by
    obtain ⟨⟨⟨r, f', e1, e2, e3⟩, e4⟩, e5⟩ := q
    exact ⟨⟨⟨r, f', e1, hp _ _ e2, e3⟩, e4⟩, e5⟩)
theorem RC.keep {G : GG} {al : Tg → Nat} {fi : Nat → Nat → Int32} {z : CZ} {f f' : Wo} (h : RC G al fi z f) (hk : ∀ b x, f b = some x → x.1.1 ≠ 30 → x.1.1 ≠ 40 → f' b = some x) : RC G al fi z f' := by
  obtain ⟨w, h1, h2, g0, h3⟩ := h
  refine ⟨w, fun q hq => ?_, fun q hq => ?_, g0, hk _ _ h3 (show (99 : Nat) ≠ 30 by decide) (show (99 : Nat) ≠ 40 by decide)⟩
  · have := dom_lt hq
    exact hk _ _ (h1 q hq) (by show q.1 ≠ 30; omega) (by show q.1 ≠ 40; omega)
  · have hlt := dol_lt hq
    obtain ⟨vs, hv⟩ := (h2 q hq).hd
    refine (h2 q hq).keep fun b x hb hx => ?_
    rcases hx with hx | hx | hx
    · subst hx
      rw [hv] at hb
      cases hb
      exact hk _ _ hv (by show q.1 ≠ 30; omega) (by show q.1 ≠ 40; omega)
    · exact hk _ _ hb (by rw [hx]; exact (show (20 : Nat) ≠ 30 by decide)) (by rw [hx]; exact (show (20 : Nat) ≠ 40 by decide))
    · exact hk _ _ hb (by rw [hx]; decide) (by rw [hx]; decide)
def BR (ar : Nat → Nat → Int32) : Prop := ∀ k, (∃ v, v ≤ 5 ∧ ar 4 k = nI v) ∧ ∃ w, w ≤ 200000 ∧ ar 6 k = nI w
def SB (c : Nat) (fi : Nat → Nat → Int32) (z : CZ) (sc : Nat → Int32) (ar : Nat → Nat → Int32) : Prop := SM c fi z sc ar ∧ BR ar
section LW
variable {G : GG} {al al' : Tg → Nat} {am : Nat → Nat} {fi fi' : Nat → Nat → Int32} {z z' : CZ} {sc sc' : Nat → Int32} {ar ar' : Nat → Nat → Int32} {c c' : Nat} {g : Nat → Int64} {f f1 f2 f3 : Wo} {o n : Nat}
theorem SM.s7 (h : SM c fi z sc ar) (hs : ∀ j, j < 4 → sc' j = sc j) : SM c fi z sc' ar := by
  obtain ⟨⟨a0, a1, a2, a3, a4⟩, h2⟩ := h
  exact ⟨⟨(hs 0 (by decide)).trans a0, (hs 1 (by decide)).trans a1, (hs 2 (by decide)).trans a2, (hs 3 (by decide)).trans a3, a4⟩, h2⟩
theorem SB.s7 (h : SB c fi z sc ar) (k : Int32) : SB c fi z (va_up sc 7 k) ar := ⟨h.1.s7 fun j hj => va_up_ne _ _ (by omega), h.2⟩
/-- what the model's call finds -/
def JW (y : Nat) (f : Wo) : Prop := ∃ fs, f y = some ((30, 0), oO 6 fs)
/-- the two sides of one operation -/
def OpT (A : Nat → Nat → (Option Value → Wo → Prop) → Prop) (l : Launch) (y6 : MethodName) (ws6 : List Cond) (fr6 lo6 : Nat) (G : GG) (as6 : List Value) (J : Wo → Prop) (E : Int32 → Int64 → Prop) (I : Int32 → Int64 → Wo → Prop) : Prop := ∃ (k : Int32) (mc ms : Nat) (Q : Wo → Prop), mc ≤ 4 ∧ ms ≤ 200 ∧ A mc ms (fun r f' => r = some (.int k) ∧ Q f') ∧ ∀ f1, Q f1 → J f1 ∧ ∃ (v : Int32) (w : Int64), (k = 0 → E v w) ∧ Ct l y6 ws6 fr6 lo6 G as6 f1 (fun r f2 => r = some (.int v) ∧ I k w f2) 0 0
def eI (v : Int32) (w : Int64) : Prop := w = v.toInt64
theorem SM.ft2 (h : SM c fi z sc ar) {t u : Nat} (ht : t < zN z 1) (hu : u < zN z 1) : ftI (sc 3) (mnI (zN z 0) (ar 7 t) (ar 1)) (mnI (zN z 0) (ar 7 u) (ar 1)) (ar 8 t) (ar 8 u) = ftC fi z (fi 18 0) t u := by
  unfold ftI ftC
  rw [h.mn ht, h.mn hu, q_abs, h.1.2.2.2.1, ← (h.pt ht).2.1, ← (h.pt hu).2.1, h.ck]
  rfl
end LW
/-! ===== levels and bars stay small ===== -/
theorem e_lv : ∀ v, v ≤ 5 → (∃ u, u ≤ 5 ∧ lvI (nI v) = nI u) ∧ (∃ u, u ≤ 5 ∧ nlI (nI v) = nI u) ∧ ∃ u, u ≤ 80 ∧ mtI (nI v) = nI u := by
  intro v hv
  have h : v = 0 ∨ v = 1 ∨ v = 2 ∨ v = 3 ∨ v = 4 ∨ v = 5 := by omega
  rcases h with rfl | rfl | rfl | rfl | rfl | rfl
  · exact ⟨⟨1, by decide, by decide⟩, ⟨0, by decide, by decide⟩, 5, by decide, by decide⟩
  · exact ⟨⟨2, by decide, by decide⟩, ⟨0, by decide, by decide⟩, 10, by decide, by decide⟩
  · exact ⟨⟨3, by decide, by decide⟩, ⟨1, by decide, by decide⟩, 20, by decide, by decide⟩
  · exact ⟨⟨4, by decide, by decide⟩, ⟨2, by decide, by decide⟩, 40, by decide, by decide⟩
  · exact ⟨⟨5, by decide, by decide⟩, ⟨3, by decide, by decide⟩, 80, by decide, by decide⟩
  · exact ⟨⟨5, by decide, by decide⟩, ⟨4, by decide, by decide⟩, 80, by decide, by decide⟩
theorem BR.of {ar ar' : Nat → Nat → Int32} (h : BR ar) (h4 : ∀ k, ar' 4 k = ar 4 k ∨ ar' 4 k = lvI (ar 4 k) ∨ ar' 4 k = nlI (ar 4 k)) (h6 : ∀ k, ar' 6 k = ar 6 k ∨ ∃ c, c ≤ 100000 ∧ ar' 6 k = nI c + mtI (ar 4 k)) : BR ar' := fun k => by
  obtain ⟨⟨v, hv, e4⟩, w, hw, e6⟩ := h k
  obtain ⟨⟨u1, a1, b1⟩, ⟨u2, a2, b2⟩, u3, a3, b3⟩ := e_lv v hv
  constructor
  · rcases h4 k with q | q | q
    · exact ⟨v, hv, q.trans e4⟩
    · exact ⟨u1, a1, by rw [q, e4, b1]⟩
    · exact ⟨u2, a2, by rw [q, e4, b2]⟩
  · rcases h6 k with q | ⟨c, hc, q⟩
    · exact ⟨w, hw, q.trans e6⟩
    · exact ⟨c + u3, by omega, by rw [q, e4, b3, nI_add]⟩
theorem BR.same {ar ar' : Nat → Nat → Int32} (h : BR ar) (h4 : ar' 4 = ar 4) (h6 : ar' 6 = ar 6) : BR ar' := fun k => by
  rw [h4, h6]
  exact h k
theorem BR.exp {ar : Nat → Nat → Int32} (h : BR ar) {np nt m ck : Nat} (hc : ck ≤ 100000) : BR (expA np nt (nI ck) m ar) := by
  refine h.of (fun k => ?_) (fun k => ?_)
  · rw [show expA np nt (nI ck) m ar 4 = ifF np (fun k => hsI (lateI (ar 11) (ar 14) m) (nI k)) (fun k => lvI (ar 4 k)) (ar 4) from if_pos rfl]
    unfold ifF
    split
    · exact Or.inr (Or.inl rfl)
    · exact Or.inl rfl
  · rw [show expA np nt (nI ck) m ar 6 = ifF np (fun k => hsI (lateI (ar 11) (ar 14) m) (nI k)) (fun k => nI ck + mtI (ar 4 k)) (ar 6) from (if_neg (by decide)).trans (if_pos rfl)]
    unfold ifF
    split
    · exact Or.inr ⟨ck, hc, rfl⟩
    · exact Or.inl rfl
theorem BR.inn {np nt ck : Nat} (hc : ck ≤ 100000) : ∀ (i : Nat) (s : (Nat → Nat → Int32) × Int32), BR s.1 → BR (innA np nt (nI ck) i s).1
  | 0, _, h => h
  | i + 1, s, h => by
    have ih := BR.inn (np := np) (nt := nt) hc i s h
    by_cases q : (innA np nt (nI ck) i s).1 15 i = 0 ∧ 3 ≤ nI ck - (innA np nt (nI ck) i s).1 13 i
    · rw [innA_t q]; exact ih.exp hc
    · rw [innA_f q]; exact ih
theorem BR.out {np nt nm c : Nat} {ar : Nat → Nat → Int32} (h : BR ar) : ∀ t, c + t ≤ 100000 → BR (outA np nt nm (nI c) ar t).1
  | 0, _ => h
  | t + 1, ht => by
    show BR (innA np nt (nI c + nI (t + 1)) nm (outA np nt nm (nI c) ar t)).1
    rw [nI_add]
    exact BR.inn (by omega) nm _ (BR.out h t (by omega))

