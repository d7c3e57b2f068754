theorem bI_f' {b : Bool} (h : b = false) : (0 : Int32) = bI b := by subst h; rfl
theorem bI_t' {b : Bool} (h : b = true) : (1 : Int32) = bI b := by subst h; rfl
def gdB (np : Nat) (s : Int32) : Bool := decide (0 < s) && (decide (s < 1 <<< (nI np &&& 31)) && decide (szI s ≤ 3))
def okB (st br : Nat → Int32) (ck s : Int32) (k : Nat) : Bool := !hsI s (nI k) || (decide (st k = 0) && decide (br k ≤ ck))
def frB (pn : Int32) (st br : Nat → Int32) (ck s : Int32) : Nat → Bool
  | 0 => decide (¬ 100 ≤ pn)
  | i + 1 => frB pn st br ck s i && okB st br ck s i
section QPRE
end QPRE
/-- the expected share within its bounds -/
def exI (x : Int32) : Int32 := if 50 ≤ x then (if x ≤ 950 then x else 950) else 50
def e0I (np m : Nat) (ar : Nat → Nat → Int32) : Int32 := 500 + smI np (ar 11 (2 * m)) (ar 1) / 3 - smI np (ar 11 (2 * m + 1)) (ar 1) / 3
def tmI (t0 : Int32) (k : Nat) : Int32 := if hsI t0 (nI k) = true then 0 else 1
def shI (t0 wn ex : Int32) (k : Nat) : Int32 := (if tmI t0 k = wn then 1000 else 0) - (if tmI t0 k = 0 then ex else 1000 - ex)
def clI (x : Int32) : Int32 := if 0 ≤ x then (if x ≤ 4000 then x else 4000) else 0
def nuI (u : Int32) : Int32 := if 50 ≤ u * 9 / 10 then u * 9 / 10 else 50
def nlI (x : Int32) : Int32 := x - (if x ≤ 0 then 0 else 1)
def nrI (ar : Nat → Nat → Int32) (t0 wn ex : Int32) (k : Nat) : Int32 := clI (ar 1 k + downI (ar 2 k * shI t0 wn ex k) 8000)
def finA (np nt m : Nat) (wn : Int32) (ar : Nat → Nat → Int32) : Nat → Nat → Int32 := fun j => if j = 1 then ifF np (fun k => hsI (allI (ar 11) m) (nI k)) (nrI ar (ar 11 (2 * m)) wn (exI (e0I np m ar))) (ar 1) else if j = 2 then ifF np (fun k => hsI (allI (ar 11) m) (nI k)) (fun k => nuI (ar 2 k)) (ar 2) else if j = 4 then ifF np (fun k => hsI (allI (ar 11) m) (nI k)) (fun k => nlI (ar 4 k)) (ar 4) else if j = 10 then ifF nt (eqB (ar 10) (nI m)) (fun _ => -1) (ar 10) else if j = 5 then becF np (allI (ar 11) m) 0 (ar 5) else if j = 15 then va_up (ar 15) m 3 else ar j
theorem finA_of {np nt m : Nat} {wn : Int32} {ar arb ar' : Nat → Nat → Int32} (h10 : ar' 10 = ifF nt (eqB (ar 10) (nI m)) (fun _ => -1) (ar 10)) (hoth : ∀ j, j ≠ 10 → ar' j = arb j) (b1 : arb 1 = ifF np (fun k => hsI (allI (ar 11) m) (nI k)) (nrI ar (ar 11 (2 * m)) wn (exI (e0I np m ar))) (ar 1)) (b2 : arb 2 = ifF np (fun k => hsI (allI (ar 11) m) (nI k)) (fun k => nuI (ar 2 k)) (ar 2)) (b4 : arb 4 = ifF np (fun k => hsI (allI (ar 11) m) (nI k)) (fun k => nlI (ar 4 k)) (ar 4)) (ho : ∀ j, j ≠ 1 → j ≠ 2 → j ≠ 4 → arb j = ar j) : va_up (va_up ar' 5 (becF np (allI (ar 11) m) 0 (ar' 5))) 15 (va_up (va_up ar' 5 (becF np (allI (ar 11) m) 0 (ar' 5)) 15) m 3) = finA np nt m wn ar := by
  funext j
  unfold finA
  by_cases e1 : j = 1
  · rw [if_pos e1, e1, va_up_ne _ _ (by decide), va_up_ne _ _ (by decide), hoth 1 (by decide), b1]
  rw [if_neg e1]
  by_cases e2 : j = 2
  · rw [if_pos e2, e2, va_up_ne _ _ (by decide), va_up_ne _ _ (by decide), hoth 2 (by decide), b2]
  rw [if_neg e2]
  by_cases e4 : j = 4
  · rw [if_pos e4, e4, va_up_ne _ _ (by decide), va_up_ne _ _ (by decide), hoth 4 (by decide), b4]
  rw [if_neg e4]
  by_cases e10 : j = 10
  · rw [if_pos e10, e10, va_up_ne _ _ (by decide), va_up_ne _ _ (by decide), h10]
  rw [if_neg e10]
  by_cases e5 : j = 5
  · rw [if_pos e5, e5, va_up_ne _ _ (by decide), va_up_self, hoth 5 (by decide), ho 5 (by decide) (by decide) (by decide)]
  rw [if_neg e5]
  by_cases e15 : j = 15
  · rw [if_pos e15, e15, va_up_self, va_up_ne _ _ (by decide), hoth 15 (by decide), ho 15 (by decide) (by decide) (by decide)]
  rw [if_neg e15, va_up_ne _ _ e15, va_up_ne _ _ e5, hoth j e10, ho j e1 e2 e4]
