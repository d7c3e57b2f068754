/-! ===== a new match ===== -/
def zM (z : CZ) (xs : List Nat) (cap cm : Nat) : CZ := (tu (tu (zL z) (13, 2) (List.range (zN z 2 + 1))) (12, zN z 2) xs, zA z, va_up (zN z) 2 (zN z 2 + 1), tu (tu (zC z) (13, 2) cap) (12, zN z 2) cm)
def aM (al : Tg → Nat) (n m q : Nat) : Tg → Nat := tu (tu al (2, n) m) (12, n) q
theorem aM_n {al : Tg → Nat} {n m q : Nat} {p : Tg} (h : p ≠ (2, n)) (h2 : p ≠ (12, n)) : aM al n m q p = al p := (tu_n _ _ h2).trans (tu_n _ _ h)
theorem zM_d {z : CZ} {xs : List Nat} {cap cm : Nat} {p : Tg} (h : dom (zN (zM z xs cap cm)) p) (hn : p ≠ (2, zN z 2)) : dom (zN z) p := by
  rcases h with ⟨h1, h2⟩ | h
  · refine Or.inl ⟨h1, ?_⟩
    by_cases hp : p.1 = 2
    · have h3 : p.2 < zN z 2 + 1 := by rw [hp] at h2; exact h2
      have h4 : p.2 ≠ zN z 2 := fun e => hn (Prod.ext hp e)
      rw [hp]
      omega
    · rwa [show zN (zM z xs cap cm) p.1 = zN z p.1 from va_up_ne _ _ hp] at h2
  · exact Or.inr h
theorem zM_l {z : CZ} {xs : List Nat} {cap cm : Nat} {p : Tg} (h : dol (zN (zM z xs cap cm)) p) (hn : p ≠ (12, zN z 2)) : dol (zN z) p := by
  rcases h with ⟨h1, h2⟩ | ⟨h1, h2⟩ | h
  · exact Or.inl ⟨h1, h2⟩
  · refine Or.inr (Or.inl ⟨h1, ?_⟩)
    have h3 : p.2 < zN z 2 + 1 := h2
    have h4 : p.2 ≠ zN z 2 := fun e => hn (Prod.ext h1 e)
    omega
  · exact Or.inr (Or.inr h)
theorem fsC_cg {al al' : Tg → Nat} {fi fi' : Nat → Nat → Int32} {la la' : Nat → Option Nat} {p : Tg} (h1 : ∀ a, okn a = p.1 → fi' a p.2 = fi a p.2) (h2 : p.1 = 0 → laR al' (la' p.2) = laR al (la p.2)) (h11 : p.1 = 1 → al' (11, p.2) = al (11, p.2)) (h12 : p.1 = 2 → al' (12, p.2) = al (12, p.2)) (h13 : ∀ i, al' (13, i) = al (13, i)) (h14 : al' (14, 0) = al (14, 0)) : fsC al' fi' la' p = fsC al fi la p := by
  obtain ⟨a, b⟩ := p
  have hh : ∀ i, okn i = a → fi' i b = fi i b := h1
  have k0 : a = 0 → laR al' (la' b) = laR al (la b) := h2
  have k1 : a = 1 → al' (11, b) = al (11, b) := h11
  have k2 : a = 2 → al' (12, b) = al (12, b) := h12
  unfold fsC
  match a with
  | 0 => simp only [hh 0 rfl, hh 1 rfl, hh 2 rfl, hh 3 rfl, hh 4 rfl, k0 rfl]
  | 1 => simp only [hh 5 rfl, hh 6 rfl, hh 7 rfl, hh 8 rfl, k1 rfl]
  | 2 => simp only [hh 9 rfl, hh 10 rfl, hh 11 rfl, hh 12 rfl, hh 13 rfl, hh 14 rfl, k2 rfl]
  | 14 => simp only [hh 15 rfl, hh 16 rfl, hh 17 rfl, h13]
  | 15 => simp only [hh 18 rfl, h13, h14]
  | 3 | 4 | 5 | 6 | 7 | 8 | 9 | 10 | 11 | 12 | 13 => rfl
  | n + 16 => rfl
theorem dol_n12 {z : CZ} : ¬ dol (zN z) (12, zN z 2) := fun h => by
  rcases h with ⟨h, -⟩ | ⟨-, h⟩ | ⟨h, -⟩
  · cases h
  · exact Nat.lt_irrefl _ h
  · cases h
theorem RC.growM {G : GG} {al : Tg → Nat} {fi fi' : Nat → Nat → Int32} {z : CZ} {f f2 : Wo} {m q cap cm : Nat} {vs : List Value} {xs : List Nat} (h : RC G al fi z f) (hm : f m = some ((2, zN z 2), oO 2 vs)) (hq : AL G f q (12, zN z 2) cm (xs.map (fun i => al (1, i)))) (hxs : ∀ x ∈ xs, x < zN z 1) (hA : AL G f2 (al (13, 2)) (13, 2) cap (lst al (zL z) (13, 2) ++ [m])) (hF : FrL (al (13, 2)) f f2) (hvs : vs = fsC (aM al (zN z 2) m q) fi' (zA z) (2, zN z 2)) (hfi : ∀ a b, okn a ≠ 2 ∨ b ≠ zN z 2 → fi' a b = fi a b) (hc : cap ≤ 1000) (hcm : cm ≤ 1000) (hn : zN z 2 + 1 ≤ 1000) : RC G (aM al (zN z 2) m q) fi' (zM z xs cap cm) f2 ∧ FrC f f2 := by
  obtain ⟨⟨w1, w2, w3, w4, w5⟩, h1, h2, g0, hg⟩ := h
  have h0 : dol (zN z) (13, 2) := dl13 (by decide)
  obtain ⟨us, hu⟩ := (h2 _ h0).hd
  obtain ⟨uq, huq⟩ := hq.hd
  have hN : zN (zM z xs cap cm) 2 = zN z 2 + 1 := va_up_self (zN z) 2 _
  have hNn : ∀ j, j ≠ 2 → zN (zM z xs cap cm) j = zN z j := fun j hj => va_up_ne _ _ hj
  have hle : ∀ j, zN z j ≤ zN (zM z xs cap cm) j := fun j => by
    by_cases hj : j = 2
    · subst hj; rw [hN]; omega
    · rw [hNn j hj]; exact Nat.le_refl _
  have eL12 : zL (zM z xs cap cm) (12, zN z 2) = xs := tu_s _ _ _
  have eL13 : zL (zM z xs cap cm) (13, 2) = List.range (zN z 2 + 1) := (tu_n (tu (zL z) (13, 2) (List.range (zN z 2 + 1))) (p := (13, 2)) (q := (12, zN z 2)) xs (fun e => by cases e)).trans (tu_s _ _ _)
  have eLn : ∀ p : Tg, p ≠ (12, zN z 2) → p ≠ (13, 2) → zL (zM z xs cap cm) p = zL z p := fun p a b => (tu_n _ _ a).trans (tu_n _ _ b)
  have eC12 : zC (zM z xs cap cm) (12, zN z 2) = cm := tu_s _ _ _
  have eC13 : zC (zM z xs cap cm) (13, 2) = cap := (tu_n (tu (zC z) (13, 2) cap) (p := (13, 2)) (q := (12, zN z 2)) cm (fun e => by cases e)).trans (tu_s _ _ _)
  have eCn : ∀ p : Tg, p ≠ (12, zN z 2) → p ≠ (13, 2) → zC (zM z xs cap cm) p = zC z p := fun p a b => (tu_n _ _ a).trans (tu_n _ _ b)
  have hal : ∀ p : Tg, p ≠ (2, zN z 2) → p ≠ (12, zN z 2) → aM al (zN z 2) m q p = al p := fun p a b => aM_n a b
  refine ⟨⟨⟨fun p hp j hj => ?_, fun k hk p hp => ?_, fun j hj => ?_, fun p hp => ?_, fun j hj => ?_⟩, fun p hp => ?_, fun p hp => ?_, g0, ?_⟩, fun b x hb hx => ?_⟩
  · by_cases hpq : p = (12, zN z 2)
    · subst hpq
      rw [eL12] at hj
      exact hxs j hj
    by_cases hp2 : p = (13, 2)
    · subst hp2
      rw [eL13] at hj
      have := List.mem_range.mp hj
      show j < zN (zM z xs cap cm) 2
      rw [hN]; exact this
    · rw [eLn p hpq hp2] at hj
      exact Nat.lt_of_lt_of_le (w1 p (zM_l hp hpq) j hj) (hle _)
  · rw [hNn 1 (by decide)]
    rw [hNn 0 (by decide)] at hk
    exact w2 k hk p hp
  · by_cases hj0 : j = 2
    · subst hj0
      rw [hN]; exact eL13
    · rw [hNn j hj0, eLn (13, j) (fun e => by cases e) (fun e => hj0 (congrArg Prod.snd e))]
      exact w3 j hj
  · by_cases hpq : p = (12, zN z 2)
    · subst hpq; rw [eC12]; exact hcm
    by_cases hp2 : p = (13, 2)
    · subst hp2; rw [eC13]; exact hc
    · rw [eCn p hpq hp2]; exact w4 p (zM_l hp hpq)
  · by_cases hj0 : j = 2
    · subst hj0; rw [hN]; exact hn
    · rw [hNn j hj0]; exact w5 j hj
  · by_cases hpq : p = (2, zN z 2)
    · subst hpq
      rw [show aM al (zN z 2) m q (2, zN z 2) = m from (tu_n _ _ (fun e => by cases e)).trans (tu_s _ _ _)]
      refine (hF m _ hm (w_neT hu hm (fun e => by cases e)) (fun e => by cases e)).trans ?_
      rw [hvs]
      rfl
    · have hd := zM_d hp hpq
      have hp12 : p ≠ (12, zN z 2) := fun e => by have := dom_lt hd; rcases hd with ⟨a, -⟩ | ⟨a | a, -⟩ <;> rw [e] at a <;> simp at a
      rw [hal p hpq hp12, show fsC (aM al (zN z 2) m q) fi' (zA (zM z xs cap cm)) p = fsC al fi (zA z) p from fsC_cg (fun a ha => hfi a _ (by
          by_cases h9 : p.1 = 2
          · exact Or.inr (fun e => hpq (Prod.ext h9 e))
          · exact Or.inl (by rw [ha]; exact h9))) (fun _ => by
            show laR (aM al (zN z 2) m q) (zA z p.2) = _
            cases zA z p.2 with
            | none => rfl
            | some x => exact congrArg Value.ref (hal (1, x) (fun e => by cases e) (fun e => by cases e))) (fun _ => hal _ (fun e => by cases e) (fun e => by cases e)) (fun h9 => hal _ (fun e => by cases e) (fun e => hpq (Prod.ext h9 (by have e2 : p.2 = zN z 2 := congrArg Prod.snd e; exact e2)))) (fun i => hal _ (fun e => by cases e) (fun e => by cases e)) (hal _ (fun e => by cases e) (fun e => by cases e))]
      exact hF _ _ (h1 p hd) (w_neT hu (h1 p hd) (dom_ne hd h0).symm) (fun e => by have := dom_lt hd; rw [show p = (20, al (13, 2)) from e] at this; omega)
  · by_cases hpq : p = (12, zN z 2)
    · subst hpq
      rw [show aM al (zN z 2) m q (12, zN z 2) = q from tu_s _ _ _, eC12, show lst (aM al (zN z 2) m q) (zL (zM z xs cap cm)) (12, zN z 2) = xs.map (fun i => al (1, i)) by
        rw [lst, eL12]
        exact List.map_congr_left fun i _ => hal (1, i) (fun e => by cases e) (fun e => by cases e)]
      refine hq.keep fun b x hb hx => hF b x hb (fun e => ?_) (fun e => ?_)
      · subst e
        rw [hu] at hb
        cases hb
        rcases hx with hx | hx | hx
        · rw [← hx, hu] at huq; cases huq
        · cases hx
        · cases hx
      · rcases hx with hx | hx | hx
        · subst hx
          rw [huq] at hb
          cases hb
          cases e
        · rw [hx] at e
          have e2 : q = al (13, 2) := congrArg Prod.snd e
          rw [e2, hu] at huq; cases huq
        · rw [hx] at e; cases e
    have hd := zM_l hp hpq
    have hp2 : p ≠ (2, zN z 2) := fun e => by rcases hd with ⟨a, -⟩ | ⟨a, -⟩ | ⟨a, -⟩ <;> rw [e] at a <;> cases a
    rw [hal p hp2 hpq]
    by_cases hp3 : p = (13, 2)
    · subst hp3
      rw [eC13]
      have e9 : lst (aM al (zN z 2) m q) (zL (zM z xs cap cm)) (13, 2) = lst al (zL z) (13, 2) ++ [m] := by
        rw [lst, eL13, List.range_succ, List.map_append, lst, w3 2 (by decide)]
        congr 1
        · refine List.map_congr_left fun i hi => hal _ (fun e => ?_) (fun e => by cases e)
          have h8 := List.mem_range.mp hi
          have h9 : i = zN z 2 := congrArg Prod.snd e
          omega
        · show [aM al (zN z 2) m q (2, zN z 2)] = _
          rw [show aM al (zN z 2) m q (2, zN z 2) = m from (tu_n _ _ (fun e => by cases e)).trans (tu_s _ _ _)]
      rw [e9]
      exact hA
    · rw [eCn p hpq hp3]
      have e9 : lst (aM al (zN z 2) m q) (zL (zM z xs cap cm)) p = lst al (zL z) p := by
        rw [lst, lst, eLn p hpq hp3]
        refine List.map_congr_left fun i hi => hal _ (fun e => ?_) (fun e => ?_)
        · have h8 := w1 p hd i hi
          have h9 : i = zN z 2 := congrArg Prod.snd e
          have h7 : ek p = 2 := congrArg Prod.fst e
          rw [h7] at h8
          omega
        · have h7 : ek p = 12 := congrArg Prod.fst e
          have := ek_le p
          omega
      rw [e9]
      obtain ⟨us2, hu2⟩ := (h2 p hd).hd
      have hpa : al p ≠ al (13, 2) := w_neT hu hu2 (fun e => hp3 e.symm)
      refine (h2 p hd).keep fun b x hb hx => hF b x hb (fun e => ?_) (fun e => ?_)
      · subst e
        rw [hu] at hb
        cases hb
        rcases hx with hx | hx | hx
        · exact hpa hx.symm
        · cases hx
        · cases hx
      · rcases hx with hx | hx | hx
        · subst hx
          rw [hu2] at hb
          cases hb
          have := dol_lt hd; rw [show p = (20, al (13, 2)) from e] at this; omega
        · rw [hx] at e; exact hpa (congrArg Prod.snd e)
        · rw [hx] at e; cases e
  · exact hF _ _ hg (w_neT hu hg (by decide)) (fun e => by cases e)
  · refine hF b x hb (fun e => ?_) (fun e => ?_)
    · subst e
      rw [hu] at hb
      cases hb
      have h30 : 30 ≤ 13 := hx
      omega
    · rw [e] at hx
      have h30 : 30 ≤ 20 := hx
      omega
/-! ===== make, pure ===== -/
def nmF (fi : Nat → Nat → Int32) (n : Nat) (mi : Int32) (xs : List Nat) : Nat → Nat → Int32 := fu (fu (fu (fu (fu (fu (sndF fi 2 xs) 9 n (fi 15 0)) 10 n (fi 16 0)) 11 n (fi 17 0)) 12 n (mi + 3)) 13 n 0) 14 n (fi 15 0 ||| fi 16 0)
theorem nmF_ne (fi : Nat → Nat → Int32) (n : Nat) (mi : Int32) (xs : List Nat) (a b : Nat) (h : okn a ≠ 2 ∨ b ≠ n) : nmF fi n mi xs a b = sndF fi 2 xs a b := by
  have h2 : ∀ j, okn j = 2 → a ≠ j ∨ b ≠ n := fun j hj => h.imp (fun h e => h (by rw [e]; exact hj)) id
  unfold nmF
  rw [fu_ne _ _ (h2 14 rfl), fu_ne _ _ (h2 13 rfl), fu_ne _ _ (h2 12 rfl), fu_ne _ _ (h2 11 rfl), fu_ne _ _ (h2 10 rfl), fu_ne _ _ (h2 9 rfl)]
def mkW (fi : Nat → Nat → Int32) (z : CZ) (i : Nat) : RS := fwF (zPut z (13, 3) (gaL fi z i i (zN z 1)) 0) 7 fi [] 0 0 0
def mkG (z : CZ) : Nat → (Nat → Nat → Int32) → Nat → RS
  | 0, fi, _ => (false, fi, [])
  | n + 1, fi, i => if fi 7 i = 1 then (if (mkW fi z i).1 = true then mkW fi z i else mkG z n (mkW fi z i).2.1 (i + 1)) else mkG z n fi (i + 1)
/-- what is the same while candidates are gathered and sets tried -/
def zE (z z' : CZ) : Prop := zN z' = zN z ∧ zA z' = zA z ∧ ∀ q, q ≠ (13, 3) → q ≠ (13, 4) → zL z' q = zL z q ∧ zC z' q = zC z q
theorem zE.rf (z : CZ) : zE z z := ⟨rfl, rfl, fun _ _ _ => ⟨rfl, rfl⟩⟩
theorem zE.put3 {z z' : CZ} (h : zE z z') (xs : List Nat) (c : Nat) : zE z (zPut z' (13, 3) xs c) := ⟨h.1, h.2.1, fun q h3 h4 => ⟨(tu_n _ _ h3).trans (h.2.2 q h3 h4).1, (tu_n _ _ h3).trans (h.2.2 q h3 h4).2⟩⟩
theorem zE.put4 {z z' : CZ} (h : zE z z') (xs : List Nat) (c : Nat) : zE z (zPut z' (13, 4) xs c) := ⟨h.1, h.2.1, fun q h3 h4 => ⟨(tu_n _ _ h4).trans (h.2.2 q h3 h4).1, (tu_n _ _ h4).trans (h.2.2 q h3 h4).2⟩⟩
theorem ftC_c {z z' : CZ} (h : ∀ p, zL z' (11, p) = zL z (11, p)) (fi : Nat → Nat → Int32) (m : Int32) (p q : Nat) : ftC fi z' m p q = ftC fi z m p q := by
  unfold ftC dfC
  rw [h p, h q]
theorem gaL_c {z z' : CZ} (h : ∀ p, zL z' (11, p) = zL z (11, p)) (fi : Nat → Nat → Int32) (b p n : Nat) : gaL fi z' b p n = gaL fi z b p n := by
  unfold gaL
  congr 1
  funext i
  unfold gaT
  rw [ftC_c h]
theorem wgL_d {z z' : CZ} (h4 : zL z' (13, 4) = zL z (13, 4)) (h : ∀ p, zL z' (11, p) = zL z (11, p)) (fi : Nat → Nat → Int32) (c : Int32) : ∀ n, wgL fi z' c n = wgL fi z c n
  | 0 => rfl
  | n + 1 => by unfold wgL wgS; rw [wgL_d h4 h fi c n, h4, h]
theorem wgF_d {z z' : CZ} (h4 : zL z' (13, 4) = zL z (13, 4)) (h : ∀ p, zL z' (11, p) = zL z (11, p)) (fi : Nat → Nat → Int32) (c : Int32) : wgF fi z' c = wgF fi z c := by unfold wgF; rw [wgL_d h4 h, h4]
theorem spL_d {z z' : CZ} (h4 : zL z' (13, 4) = zL z (13, 4)) (h : ∀ p, zL z' (11, p) = zL z (11, p)) (fi : Nat → Nat → Int32) (F : Nat) : ∀ n, spL fi z' F n = spL fi z F n
  | 0 => rfl
  | n + 1 => by unfold spL; rw [spL_d h4 h fi F n, wgF_d h4 h]
theorem spF_d {z z' : CZ} (h4 : zL z' (13, 4) = zL z (13, 4)) (h : ∀ p, zL z' (11, p) = zL z (11, p)) (fi : Nat → Nat → Int32) : spF fi z' = spF fi z := by unfold spF; rw [spL_d h4 h fi, h4]
/-- the search leaves all but the draft's numbers -/
def DQ (fi fi' : Nat → Nat → Int32) : Prop := ∀ a b, a < 15 ∨ 17 < a → fi' a b = fi a b
theorem DQ.rf {fi : Nat → Nat → Int32} : DQ fi fi := fun _ _ _ => rfl
theorem DQ.trans {a b c : Nat → Nat → Int32} (h : DQ a b) (k : DQ b c) : DQ a c := fun x y q => (k x y q).trans (h x y q)
theorem wgP_DQ (fi : Nat → Nat → Int32) (s : W6) : DQ fi (wgP fi s) := fun a b h => by
  unfold wgP
  split
  · rw [fu_ne _ _ (Or.inl (by omega)), fu_ne _ _ (Or.inl (by omega)), fu_ne _ _ (Or.inl (by omega))]
  · rfl
theorem spL_DQ (fi : Nat → Nat → Int32) (z : CZ) (F : Nat) : ∀ n, DQ fi (spL fi z F n)
  | 0 => fun a b h => fu_ne _ _ (Or.inl (by omega))
  | n + 1 => (spL_DQ fi z F n).trans (wgP_DQ _ _)
theorem itF_DQ {g : (Nat → Nat → Int32) → List Nat → Nat → RS} (hg : ∀ fi S k, DQ fi (g fi S k).2.1) : ∀ (n : Nat) (fi : Nat → Nat → Int32) (S : List Nat) (k : Nat), DQ fi (itF g n fi S k).2.1
  | 0, _, _, _ => DQ.rf
  | n + 1, fi, S, k => by
    unfold itF
    split
    · exact hg fi S k
    · exact (hg fi S k).trans (itF_DQ hg n _ _ _)
theorem ndF_DQ {fi : Nat → Nat → Int32} {S : List Nat} {r : RS} (h : DQ fi r.2.1) : DQ fi (ndF S r).2.1 := by
  unfold ndF
  split
  · exact h
  · exact h
theorem fwF_DQ (z : CZ) : ∀ (d : Nat) (fi : Nat → Nat → Int32) (S : List Nat) (i P : Nat) (ct : Int32), DQ fi (fwF z d fi S i P ct).2.1
  | 0, _, _, _, _, _ => DQ.rf
  | d + 1, fi, S, i, P, ct => by
    rw [fwF_1]
    split
    · split
      · refine ndF_DQ ?_
        split
        · exact spL_DQ _ _ _ _
        · exact itF_DQ (fun fi S k => fwF_DQ z d fi S k _ _) _ _ _ _
      · exact DQ.rf
    · exact DQ.rf
/-- a set that is found has six parties at most, and they are candidates -/
theorem itF_P {g : (Nat → Nat → Int32) → List Nat → Nat → RS} {p : List Nat → Prop} (hS : ∀ fi S k, (g fi S k).1 = false → (g fi S k).2.2 = S) (S : List Nat) (hg : ∀ fi k, (g fi S k).1 = true → p (g fi S k).2.2) : ∀ (n : Nat) (fi : Nat → Nat → Int32) (k : Nat), (itF g n fi S k).1 = true → p (itF g n fi S k).2.2
  | 0, _, _, h => by cases h
  | n + 1, fi, k, h => by
    unfold itF at h ⊢
    split at h
    · rename_i h1
      rw [if_pos h1]
      exact hg fi k h1
    · rename_i h1
      have h0 : (g fi S k).1 = false := by simpa using h1
      rw [if_neg h1]
      rw [hS fi S k h0] at h ⊢
      exact itF_P hS S hg n _ _ h
theorem ndF_t {S : List Nat} {r : RS} (h : (ndF S r).1 = true) : r.1 = true ∧ ndF S r = r := by
  unfold ndF at h ⊢
  by_cases hb : r.1 = true
  · rw [if_pos hb]; exact ⟨hb, rfl⟩
  · rw [if_neg hb] at h; cases h
theorem fwF_len (z : CZ) (hD : ∀ i, i < (zL z (13, 3)).length → 1 ≤ (zL z (11, (zL z (13, 3)).getD i 0)).length) : ∀ (d : Nat) (fi : Nat → Nat → Int32) (S : List Nat) (i P : Nat) (ct : Int32), S.length ≤ P → (fwF z d fi S i P ct).1 = true → (fwF z d fi S i P ct).2.2.length ≤ 6
  | 0, _, _, _, _, _, _, h => by cases h
  | d + 1, fi, S, i, P, ct, hP, h => by
    rw [fwF_1] at h ⊢
    split at h
    · rename_i h1
      rw [if_pos h1]
      have h2 := hD i h1.1
      split at h
      · rename_i h3
        rw [if_pos h3]
        obtain ⟨h4, h5⟩ := ndF_t h
        rw [h5]
        split at h4
        · rename_i h6
          rw [if_pos h6]
          show (S ++ [_]).length ≤ 6
          rw [List.length_append]
          show S.length + 1 ≤ 6
          omega
        · rename_i h6
          rw [if_neg h6]
          refine itF_P (p := fun T => T.length ≤ 6) (fun fi S k => fwF_S z d fi S k _ _) _ (fun fi k hk => fwF_len z hD d fi _ k _ _ ?_ hk) _ _ _ h4
          rw [List.length_append]
          show S.length + 1 ≤ _
          omega
      · cases h
    · cases h
theorem fwF_c {z z' : CZ} (h3 : zL z' (13, 3) = zL z (13, 3)) (h : ∀ p, zL z' (11, p) = zL z (11, p)) : ∀ (d : Nat) (fi : Nat → Nat → Int32) (S : List Nat) (i P : Nat) (ct : Int32), fwF z' d fi S i P ct = fwF z d fi S i P ct
  | 0, _, _, _, _, _ => rfl
  | d + 1, fi, S, i, P, ct => by
    have hs : ∀ (fi : Nat → Nat → Int32) (T : List Nat), spF fi (zPut z' (13, 4) T 0) = spF fi (zPut z (13, 4) T 0) := fun fi T => spF_d (z := zPut z (13, 4) T 0) (z' := zPut z' (13, 4) T 0) ((zL_put z' (13, 4) T 0).trans (zL_put z (13, 4) T 0).symm) (fun p => (tu_n (zL z') (p := (11, p)) (q := (13, 4)) T (fun e => by cases e)).trans ((h p).trans (tu_n (zL z) (p := (11, p)) (q := (13, 4)) T (fun e => by cases e)).symm)) fi
    rw [fwF_1, fwF_1, h3]
    simp only [h, hs, fwF_c h3 h d]
