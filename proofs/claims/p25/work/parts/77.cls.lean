/-! ===== a new party ===== -/
/-- the class's world, the latest parties being la -/
def RCq (G : GG) (al : Tg → Nat) (fi : Nat → Nat → Int32) (z : CZ) (la : Nat → Option Nat) (f : Wo) : Prop := WF z ∧ (∀ q, dom (zN z) q → f (al q) = some (q, oO (ciC q) (fsC al fi la q))) ∧ (∀ q, dol (zN z) q → AL G f (al q) q (zC z q) (lst al (zL z) q)) ∧ ∃ g0, f (gE G) = some ((99, 0), oQ G 0 g0)
theorem dom_n1 {z : CZ} : ¬ dom (zN z) (1, zN z 1) := fun h => by
  rcases h with ⟨-, h⟩ | ⟨h | h, -⟩
  · exact Nat.lt_irrefl _ h
  · cases h
  · cases h
theorem dol_n11 {z : CZ} : ¬ dol (zN z) (11, zN z 1) := fun h => by
  rcases h with ⟨-, h⟩ | ⟨h, -⟩ | ⟨h, -⟩
  · exact Nat.lt_irrefl _ h
  · cases h
  · cases h
theorem dol_t1 {n : Nat → Nat} {q : Tg} (h : dol n q) : 11 ≤ q.1 ∧ q.1 ≤ 13 := by
  rcases h with ⟨a, -⟩ | ⟨a, -⟩ | ⟨a, -⟩ <;> omega
/-- the address of the new party is named -/
theorem RC.toq {G : GG} {al : Tg → Nat} {fi : Nat → Nat → Int32} {z : CZ} {f f' : Wo} (h : RC G al fi z f) (a : Nat) (hm : ∀ b x, f b = some x → f' b = some x) : RCq G (tu al (1, zN z 1) a) fi z (zA z) f' := by
  obtain ⟨hw, h1, h2, g0, hg⟩ := h
  have hal : ∀ p : Tg, p ≠ (1, zN z 1) → tu al (1, zN z 1) a p = al p := fun p hp => tu_n _ _ hp
  refine ⟨hw, fun p hp => ?_, fun p hp => ?_, g0, hm _ _ hg⟩
  · rw [hal p (fun e => dom_n1 (by rw [← e]; exact hp)), show fsC (tu al (1, zN z 1) a) fi (zA z) p = fsC al fi (zA z) p from fsC_cg (fun _ _ => rfl) (fun h9 => by
      cases hz : zA z p.2 with
      | none => rfl
      | some x =>
        have hp2 : p.2 < zN z 0 := by
          rcases hp with ⟨-, hp⟩ | ⟨hp | hp, -⟩
          · rw [h9] at hp; exact hp
          · omega
          · omega
        have hx := hw.2.1 p.2 hp2 x hz
        exact congrArg Value.ref (hal (1, x) (fun e => by
          have e2 : x = zN z 1 := congrArg Prod.snd e
          omega))) (fun _ => hal _ (fun e => by cases e)) (fun _ => hal _ (fun e => by cases e)) (fun i => hal _ (fun e => by cases e)) (hal _ (fun e => by cases e))]
    exact hm _ _ (h1 p hp)
  · have e9 : lst (tu al (1, zN z 1) a) (zL z) p = lst al (zL z) p := by
      rw [lst, lst]
      refine List.map_congr_left fun i hi => hal _ (fun e => ?_)
      have h8 := hw.1 p hp i hi
      have h9 : i = zN z 1 := congrArg Prod.snd e
      have h7 : ek p = 1 := congrArg Prod.fst e
      rw [h7] at h8
      omega
    rw [hal p (fun e => by have := dol_t1 hp; rw [e] at this; simp at this), e9]
    exact (h2 p hp).keep fun b x hb _ => hm b x hb
theorem RCq.lat {G : GG} {al : Tg → Nat} {fi : Nat → Nat → Int32} {z : CZ} {la : Nat → Option Nat} {f : Wo} (hR : RCq G al fi z la f) {q : Tg} (hq : dol (zN z) q) : ∃ vs, f (al q) = some (q, oO 0 vs) := (hR.2.2.1 q hq).hd
/-- a player joins -/
theorem RCq.join {G : GG} {al : Tg → Nat} {fi : Nat → Nat → Int32} {z : CZ} {la : Nat → Option Nat} {f f2 : Wo} {a m k : Nat} {ea e1 em : va_E} (h : RCq G al fi z la f) (hk : k < zN z 0) (ha : f a = some ((1, zN z 1), ea)) (hm : f m = some ((11, zN z 1), em)) (hF : FrL m f f2) : RCq G al fi z (fun j => if j = k then some (zN z 1) else la j) (w_up (w_up f2 a (1, zN z 1) e1) (al (0, k)) (0, k) (oO 4 (fsC al fi (fun j => if j = k then some (zN z 1) else la j) (0, k)))) ∧ FrC f (w_up (w_up f2 a (1, zN z 1) e1) (al (0, k)) (0, k) (oO 4 (fsC al fi (fun j => if j = k then some (zN z 1) else la j) (0, k)))) := by
  obtain ⟨hw, h1, h2, g0, hg⟩ := h
  have hb := h1 (0, k) (dm0 hk)
  have keep : ∀ b x, f b = some x → x.1 ≠ (1, zN z 1) → x.1 ≠ (11, zN z 1) → x.1 ≠ (0, k) → x.1 ≠ (20, m) → (w_up (w_up f2 a (1, zN z 1) e1) (al (0, k)) (0, k) (oO 4 (fsC al fi (fun j => if j = k then some (zN z 1) else la j) (0, k)))) b = some x := fun b x hx n1 n2 n3 n4 => by
    rw [w_up_ne _ _ _ (w_ne hb hx (fun e => n3 (by rw [← e]))), w_up_ne _ _ _ (w_ne ha hx (fun e => n1 (by rw [← e])))]
    exact hF b x hx (w_ne hm hx (fun e => n2 (by rw [← e]))) n4
  refine ⟨⟨hw, fun p hp => ?_, fun p hp => ?_, g0, keep _ _ hg (fun e => by cases e) (fun e => by cases e) (fun e => by cases e) (fun e => by cases e)⟩, fun b x hx ht => keep b x hx (fun e => ?_) (fun e => ?_) (fun e => ?_) (fun e => ?_)⟩
  · by_cases hpk : p = (0, k)
    · subst hpk
      exact w_up_self _ _ _ _
    · rw [show fsC al fi (fun j => if j = k then some (zN z 1) else la j) p = fsC al fi la p from fsC_cg (fun _ _ => rfl) (fun h9 => by
        show laR al (if p.2 = k then some (zN z 1) else la p.2) = _
        rw [if_neg (fun e => hpk (Prod.ext h9 e))]) (fun _ => rfl) (fun _ => rfl) (fun _ => rfl) rfl]
      exact keep _ _ (h1 p hp) (fun e => dom_n1 (by rw [← e]; exact hp)) (fun e => by have := dom_lt hp; rcases hp with ⟨a, -⟩ | ⟨a | a, -⟩ <;> rw [show p = (11, zN z 1) from e] at a <;> simp at a) hpk (fun e => by have := dom_lt hp; rw [show p = (20, m) from e] at this; omega)
  · refine (h2 p hp).keep fun b x hx hk2 => keep b x hx (fun e => ?_) (fun e => ?_) (fun e => ?_) (fun e => ?_)
    all_goals obtain ⟨us, hu⟩ := (h2 p hp).hd
    all_goals have ht := dol_t1 hp
    · rcases hk2 with hx2 | hx2 | hx2
      · subst hx2; rw [hu] at hx; cases hx; rw [show p = (1, zN z 1) from e] at ht; omega
      · rw [hx2] at e; cases e
      · rw [hx2] at e; cases e
    · rcases hk2 with hx2 | hx2 | hx2
      · subst hx2; rw [hu] at hx; cases hx; exact dol_n11 (by rw [← show p = (11, zN z 1) from e]; exact hp)
      · rw [hx2] at e; cases e
      · rw [hx2] at e; cases e
    · rcases hk2 with hx2 | hx2 | hx2
      · subst hx2; rw [hu] at hx; cases hx; rw [show p = (0, k) from e] at ht; omega
      · rw [hx2] at e; cases e
      · rw [hx2] at e; cases e
    · rcases hk2 with hx2 | hx2 | hx2
      · subst hx2; rw [hu] at hx; cases hx; rw [show p = (20, m) from e] at ht; omega
      · rw [hx2] at e
        have e2 : al p = m := congrArg Prod.snd e
        rw [e2, hm] at hu
        cases hu
        exact dol_n11 hp
      · rw [hx2] at e; cases e
  · rw [e] at ht; exact absurd ht (by show ¬ 30 ≤ 1; omega)
  · rw [e] at ht; exact absurd ht (by show ¬ 30 ≤ 11; omega)
  · rw [e] at ht; exact absurd ht (by show ¬ 30 ≤ 0; omega)
  · rw [e] at ht; exact absurd ht (by show ¬ 30 ≤ 20; omega)
def zQ (z : CZ) (la : Nat → Option Nat) (xs : List Nat) (cap cm : Nat) : CZ := (tu (tu (zL z) (13, 1) (List.range (zN z 1 + 1))) (11, zN z 1) xs, la, va_up (zN z) 1 (zN z 1 + 1), tu (tu (zC z) (13, 1) cap) (11, zN z 1) cm)
theorem zQ_d {z : CZ} {la : Nat → Option Nat} {xs : List Nat} {cap cm : Nat} {p : Tg} (h : dom (zN (zQ z la xs cap cm)) p) (hn : p ≠ (1, zN z 1)) : dom (zN z) p := by
  rcases h with ⟨h1, h2⟩ | h
  · refine Or.inl ⟨h1, ?_⟩
    by_cases hp : p.1 = 1
    · have h3 : p.2 < zN z 1 + 1 := by rw [hp] at h2; exact h2
      have h4 : p.2 ≠ zN z 1 := fun e => hn (Prod.ext hp e)
      rw [hp]
      omega
    · rwa [show zN (zQ z la xs cap cm) p.1 = zN z p.1 from va_up_ne _ _ hp] at h2
  · exact Or.inr h
theorem zQ_l {z : CZ} {la : Nat → Option Nat} {xs : List Nat} {cap cm : Nat} {p : Tg} (h : dol (zN (zQ z la xs cap cm)) p) (hn : p ≠ (11, zN z 1)) : dol (zN z) p := by
  rcases h with ⟨h1, h2⟩ | ⟨h1, h2⟩ | h
  · refine Or.inl ⟨h1, ?_⟩
    have h3 : p.2 < zN z 1 + 1 := h2
    have h4 : p.2 ≠ zN z 1 := fun e => hn (Prod.ext h1 e)
    omega
  · exact Or.inr (Or.inl ⟨h1, h2⟩)
  · exact Or.inr (Or.inr h)
theorem RCq.grow {G : GG} {al : Tg → Nat} {fi fi' : Nat → Nat → Int32} {z : CZ} {la : Nat → Option Nat} {f f2 : Wo} {m cap cm : Nat} {vs : List Value} {xs : List Nat} (h : RCq G al fi z la f) (ha : f (al (1, zN z 1)) = some ((1, zN z 1), oO 3 vs)) (hq : AL G f m (11, zN z 1) cm (xs.map (fun i => al (0, i)))) (hxs : ∀ x ∈ xs, x < zN z 0) (hla : ∀ k, k < zN z 0 → ∀ p, la k = some p → p < zN z 1 + 1) (hA : AL G f2 (al (13, 1)) (13, 1) cap (lst al (zL z) (13, 1) ++ [al (1, zN z 1)])) (hF : FrL (al (13, 1)) f f2) (hvs : vs = fsC (tu al (11, zN z 1) m) fi' la (1, zN z 1)) (hfi : ∀ a b, okn a ≠ 1 ∨ b ≠ zN z 1 → fi' a b = fi a b) (hc : cap ≤ 1000) (hcm : cm ≤ 1000) (hn : zN z 1 + 1 ≤ 1000) : RC G (tu al (11, zN z 1) m) fi' (zQ z la xs cap cm) f2 ∧ FrC f f2 := by
  obtain ⟨⟨w1, w2, w3, w4, w5⟩, h1, h2, g0, hg⟩ := h
  have h0 : dol (zN z) (13, 1) := dl13 (by decide)
  obtain ⟨us, hu⟩ := (h2 _ h0).hd
  obtain ⟨uq, huq⟩ := hq.hd
  have hN : zN (zQ z la xs cap cm) 1 = zN z 1 + 1 := va_up_self (zN z) 1 _
  have hNn : ∀ j, j ≠ 1 → zN (zQ z la xs cap cm) j = zN z j := fun j hj => va_up_ne _ _ hj
  have hle : ∀ j, zN z j ≤ zN (zQ z la xs cap cm) j := fun j => by
    by_cases hj : j = 1
    · subst hj; rw [hN]; omega
    · rw [hNn j hj]; exact Nat.le_refl _
  have eL12 : zL (zQ z la xs cap cm) (11, zN z 1) = xs := tu_s _ _ _
  have eL13 : zL (zQ z la xs cap cm) (13, 1) = List.range (zN z 1 + 1) := (tu_n (tu (zL z) (13, 1) (List.range (zN z 1 + 1))) (p := (13, 1)) (q := (11, zN z 1)) xs (fun e => by cases e)).trans (tu_s _ _ _)
  have eLn : ∀ p : Tg, p ≠ (11, zN z 1) → p ≠ (13, 1) → zL (zQ z la xs cap cm) p = zL z p := fun p a b => (tu_n _ _ a).trans (tu_n _ _ b)
  have eC12 : zC (zQ z la xs cap cm) (11, zN z 1) = cm := tu_s _ _ _
  have eC13 : zC (zQ z la xs cap cm) (13, 1) = cap := (tu_n (tu (zC z) (13, 1) cap) (p := (13, 1)) (q := (11, zN z 1)) cm (fun e => by cases e)).trans (tu_s _ _ _)
  have eCn : ∀ p : Tg, p ≠ (11, zN z 1) → p ≠ (13, 1) → zC (zQ z la xs cap cm) p = zC z p := fun p a b => (tu_n _ _ a).trans (tu_n _ _ b)
  have hal : ∀ p : Tg, p ≠ (11, zN z 1) → tu al (11, zN z 1) m p = al p := fun p a => tu_n _ _ a
  refine ⟨⟨⟨fun p hp j hj => ?_, fun k hk p hp => ?_, fun j hj => ?_, fun p hp => ?_, fun j hj => ?_⟩, fun p hp => ?_, fun p hp => ?_, g0, ?_⟩, fun b x hb hx => ?_⟩
  · by_cases hpq : p = (11, zN z 1)
    · subst hpq
      rw [eL12] at hj
      exact hxs j hj
    by_cases hp2 : p = (13, 1)
    · subst hp2
      rw [eL13] at hj
      have := List.mem_range.mp hj
      show j < zN (zQ z la xs cap cm) 1
      rw [hN]; exact this
    · rw [eLn p hpq hp2] at hj
      exact Nat.lt_of_lt_of_le (w1 p (zQ_l hp hpq) j hj) (hle _)
  · rw [hN]
    exact hla k hk p hp
  · by_cases hj0 : j = 1
    · subst hj0
      rw [hN]; exact eL13
    · rw [hNn j hj0, eLn (13, j) (fun e => by cases e) (fun e => hj0 (congrArg Prod.snd e))]
      exact w3 j hj
  · by_cases hpq : p = (11, zN z 1)
    · subst hpq; rw [eC12]; exact hcm
    by_cases hp2 : p = (13, 1)
    · subst hp2; rw [eC13]; exact hc
    · rw [eCn p hpq hp2]; exact w4 p (zQ_l hp hpq)
  · by_cases hj0 : j = 1
    · subst hj0; rw [hN]; exact hn
    · rw [hNn j hj0]; exact w5 j hj
  · by_cases hpq : p = (1, zN z 1)
    · subst hpq
      rw [hal (1, zN z 1) (fun e => by cases e)]
      refine (hF _ _ ha (w_neT hu ha (fun e => by cases e)) (fun e => by cases e)).trans ?_
      rw [hvs]
      rfl
    · have hd := zQ_d hp hpq
      have hp12 : p ≠ (11, zN z 1) := fun e => by rcases hd with ⟨a, -⟩ | ⟨a | a, -⟩ <;> rw [e] at a <;> simp at a
      rw [hal p hp12, show fsC (tu al (11, zN z 1) m) fi' (zA (zQ z la xs cap cm)) p = fsC al fi la p from fsC_cg (fun a ha => hfi a _ (by
          by_cases h9 : p.1 = 1
          · exact Or.inr (fun e => hpq (Prod.ext h9 e))
          · exact Or.inl (by rw [ha]; exact h9))) (fun _ => by
            show laR (tu al (11, zN z 1) m) (la p.2) = _
            cases la p.2 with
            | none => rfl
            | some x => exact congrArg Value.ref (hal (1, x) (fun e => by cases e))) (fun h9 => hal _ (fun e => hpq (Prod.ext h9 (by have e2 : p.2 = zN z 1 := congrArg Prod.snd e; exact e2)))) (fun _ => hal _ (fun e => by cases e)) (fun i => hal _ (fun e => by cases e)) (hal _ (fun e => by cases e))]
      exact hF _ _ (h1 p hd) (w_neT hu (h1 p hd) (dom_ne hd h0).symm) (fun e => by have := dom_lt hd; rw [show p = (20, al (13, 1)) from e] at this; omega)
  · by_cases hpq : p = (11, zN z 1)
    · subst hpq
      rw [show tu al (11, zN z 1) m (11, zN z 1) = m from tu_s _ _ _, eC12, show lst (tu al (11, zN z 1) m) (zL (zQ z la xs cap cm)) (11, zN z 1) = xs.map (fun i => al (0, i)) by
        rw [lst, eL12]
        exact List.map_congr_left fun i _ => hal (0, i) (fun e => by cases e)]
      refine hq.keep fun b x hb hx => hF b x hb (fun e => ?_) (fun e => ?_)
      · subst e
        rw [hu] at hb
        cases hb
        rcases hx with hx | hx | hx
        · rw [← hx, hu] at huq; cases huq
        · cases hx
        · cases hx
      · rcases hx with hx | hx | hx
        · subst hx
          rw [huq] at hb
          cases hb
          cases e
        · rw [hx] at e
          have e2 : m = al (13, 1) := congrArg Prod.snd e
          rw [e2, hu] at huq; cases huq
        · rw [hx] at e; cases e
    have hd := zQ_l hp hpq
    rw [hal p hpq]
    by_cases hp3 : p = (13, 1)
    · subst hp3
      rw [eC13]
      have e9 : lst (tu al (11, zN z 1) m) (zL (zQ z la xs cap cm)) (13, 1) = lst al (zL z) (13, 1) ++ [al (1, zN z 1)] := by
        rw [lst, eL13, List.range_succ, List.map_append, lst, w3 1 (by decide)]
        congr 1
      rw [e9]
      exact hA
    · rw [eCn p hpq hp3]
      have e9 : lst (tu al (11, zN z 1) m) (zL (zQ z la xs cap cm)) p = lst al (zL z) p := by
        rw [lst, lst, eLn p hpq hp3]
        refine List.map_congr_left fun i hi => hal _ (fun e => ?_)
        have h7 : ek p = 11 := congrArg Prod.fst e
        have := ek_le p
        omega
      rw [e9]
      obtain ⟨us2, hu2⟩ := (h2 p hd).hd
      have hpa : al p ≠ al (13, 1) := w_neT hu hu2 (fun e => hp3 e.symm)
      refine (h2 p hd).keep fun b x hb hx => hF b x hb (fun e => ?_) (fun e => ?_)
      · subst e
        rw [hu] at hb
        cases hb
        rcases hx with hx | hx | hx
        · exact hpa hx.symm
        · cases hx
        · cases hx
      · rcases hx with hx | hx | hx
        · subst hx
          rw [hu2] at hb
          cases hb
          have := dol_lt hd; rw [show p = (20, al (13, 1)) from e] at this; omega
        · rw [hx] at e; exact hpa (congrArg Prod.snd e)
        · rw [hx] at e; cases e
  · exact hF _ _ hg (w_neT hu hg (by decide)) (fun e => by cases e)
  · refine hF b x hb (fun e => ?_) (fun e => ?_)
    · subst e
      rw [hu] at hb
      cases hb
      have h30 : 30 ≤ 13 := hx
      omega
    · rw [e] at hx
      have h30 : 30 ≤ 20 := hx
      omega
/-! ===== queue, pure ===== -/
def JQ (s : Int32) (i : Nat) : List Nat := (List.range i).filter (fun k => hsI s (nI k))
theorem JQ_t {s : Int32} {i : Nat} (h : hsI s (nI i) = true) : JQ s (i + 1) = JQ s i ++ [i] := by unfold JQ; rw [List.range_succ, List.filter_append]; simp [h]
theorem JQ_f {s : Int32} {i : Nat} (h : hsI s (nI i) = false) : JQ s (i + 1) = JQ s i := by unfold JQ; rw [List.range_succ, List.filter_append]; simp [h]
theorem JQ_in {s : Int32} {i k : Nat} (h : k ∈ JQ s i) : k < i := List.mem_range.mp (List.mem_filter.mp h).1
theorem JQ_le (s : Int32) {i n : Nat} (h : i ≤ n) : (JQ s i).length ≤ (JQ s n).length := by
  induction n with
  | zero => rw [show i = 0 by omega]; exact Nat.le_refl _
  | succ n ih =>
    by_cases he : i = n + 1
    · subst he; exact Nat.le_refl _
    · refine Nat.le_trans (ih (by omega)) ?_
      cases hh : hsI s (nI n) with
      | true => rw [JQ_t hh, List.length_append]; omega
      | false => rw [JQ_f hh]; exact Nat.le_refl _
def rcL (fi : Nat → Nat → Int32) (xs : List Nat) : Int32 := xs.foldl (fun c k => c + rcI (fi 0 k)) 0
theorem rcL_1 (fi : Nat → Nat → Int32) (xs : List Nat) (k : Nat) : rcL fi (xs ++ [k]) = rcL fi xs + rcI (fi 0 k) := by unfold rcL; rw [List.foldl_append]; rfl
def laQ (z : CZ) (xs : List Nat) : Nat → Option Nat := fun k => if k ∈ xs then some (zN z 1) else zA z k
theorem laQ_0 (z : CZ) : laQ z [] = zA z := funext fun k => if_neg List.not_mem_nil
theorem laQ_1 (z : CZ) (xs : List Nat) (k : Nat) : (fun j => if j = k then some (zN z 1) else laQ z xs j) = laQ z (xs ++ [k]) := funext fun j => by
  unfold laQ
  by_cases h : j = k
  · subst h; rw [if_pos rfl, if_pos (List.mem_append_right _ (List.mem_singleton.mpr rfl))]
  · rw [if_neg h]
    by_cases h2 : j ∈ xs
    · rw [if_pos h2, if_pos (List.mem_append_left _ h2)]
    · rw [if_neg h2, if_neg (fun q => (List.mem_append.mp q).elim h2 (fun q => h (List.mem_singleton.mp q)))]
def quF (fi : Nat → Nat → Int32) (n : Nat) (s ck : Int32) (xs : List Nat) : Nat → Nat → Int32 := fu (fu (fu (fu fi 5 n s) 6 n ck) 7 n 1) 8 n (rcL fi xs)
theorem quF_ne (fi : Nat → Nat → Int32) (n : Nat) (s ck : Int32) (xs : List Nat) (a b : Nat) (h : okn a ≠ 1 ∨ b ≠ n) : quF fi n s ck xs a b = fi a b := by
  have h2 : ∀ j, okn j = 1 → a ≠ j ∨ b ≠ n := fun j hj => h.imp (fun h e => h (by rw [e]; exact hj)) id
  unfold quF
  rw [fu_ne _ _ (h2 8 rfl), fu_ne _ _ (h2 7 rfl), fu_ne _ _ (h2 6 rfl), fu_ne _ _ (h2 5 rfl)]
def QM (G : GG) (al : Tg → Nat) (fi : Nat → Nat → Int32) (z : CZ) (s ck : Int32) (m : Nat) (xs : List Nat) (f0 f : Wo) : Prop := f (al (1, zN z 1)) = some ((1, zN z 1), oO 3 [.int s, .int ck, .ref m, .int 1, .int (rcL fi xs)]) ∧ AL G f m (11, zN z 1) (if xs = [] then 0 else 10) (xs.map (fun k => al (0, k))) ∧ RCq G al fi z (laQ z xs) f ∧ FrC f0 f
