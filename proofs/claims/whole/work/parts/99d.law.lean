/-! ===== the operations, one by one ===== -/
section LO
variable {G : GG} {al : Tg → Nat} {am : Nat → Nat} {fi : Nat → Nat → Int32} {z : CZ} {sc : Nat → Int32} {ar : Nat → Nat → Int32} {c : Nat} {g : Nat → Int64} {f : Wo} {o n : Nat}
theorem e_s0 (hS : SB c fi z sc ar) : sc 0 = nI (zN z 0) ∧ sc 1 = nI (zN z 1) ∧ sc 2 = nI (zN z 2) := ⟨hS.1.1.1, hS.1.1.2.1, hS.1.1.2.2.1⟩
theorem e_bar {x y : Int32} {v u : Nat} (hx : x = nI v) (hy : y = nI u) (hv : v ≤ 200000) (hu : u ≤ 200000) : (if 0 < x - y then x - y else 0) = if x ≤ y then 0 else x - y := by
  subst hx; subst hy
  by_cases h : v ≤ u
  · rw [if_pos (nI_le h (by omega)), if_neg]
    rw [show nI v - nI u = - (nI u - nI v) by rw [Int32.neg_sub], q_nsub h, Int32.lt_iff_toInt_lt, Int32.toInt_neg, nI_toInt (by omega), show (0 : Int32).toInt = 0 from rfl, Int.bmod_def]
    split <;> omega
  · rw [if_neg (nI_ge (by omega) (by omega)), if_pos]
    rw [q_nsub (by omega)]
    exact nI_lt (a := 0) (by omega) (by omega)
theorem o_state (l : Launch) (hl : l.stackTraces = false) (hR : RC G al fi z f) (hM : RM G am sc ar f) (hS : SB c fi z sc ar) (hW : WD G o f g) (hn : zN z 2 ≤ n) (a : Int32) : OpT (fun mc ms post => Ch l yL_state wsL_state 11 202 G [.ref (al (15, 0)), .int a, .ref o] f post mc ms) l yX6_state wsX6_state 4 108 G [.ref (am 0), .int a] (JW (am 0)) eI (LI G (al (15, 0)) (am 0) o n) := by
  have hsc := (e_s0 hS).1
  rcases e_inI (n := zN z 0) (by have := hS.1.np; omega) a with ⟨k, hk, rfl, hi⟩ | ⟨h1, hi⟩
  · rw [← hsc] at hi
    have hk9 : k < zN z 0 := hk
    have hv : ar 5 k = stC fi (zA z k) := by
      exact (hS.1.pl hk).2.2.2.2.2.1.symm
    refine op_0 (sc' := va_up sc 7 0) (ar' := ar) hM hW (by decide) (by decide) _ _ rfl (fun f2 => f2 = f) (h_state_0 l G f _ _ _ (hR.2.1 (15, 0) dm15) (nI k) o g hW _ _ 0 0 (c_X5_state_t l G f al fi z hR k hk) (fun f2 h => by subst h; exact FrC.rf)) (va_up_self _ _ _) (fun f2 h => by subst h; exact ⟨FrC.rf, al, fi, z, c, rfl, hR, hn, hS.s7 0⟩) (fun f1 h1 => ?_)
    rw [← hv]
    exact c_X6_state_0 l G f1 am sc ar h1 k (by have := hS.1.np; omega) hi
  · rw [← hsc] at hi
    exact op_f hR hM hS hW hn 1 (by decide) (h_state_1 l G f _ _ _ (hR.2.1 (15, 0) dm15) a o (c_X5_state_x l hl G f al fi z hR a h1)) (c_X6_state_e l G f am sc ar hM a hi)
theorem o_rating (l : Launch) (hl : l.stackTraces = false) (hR : RC G al fi z f) (hM : RM G am sc ar f) (hS : SB c fi z sc ar) (hW : WD G o f g) (hn : zN z 2 ≤ n) (a : Int32) : OpT (fun mc ms post => Ch l yL_rating wsL_rating 11 202 G [.ref (al (15, 0)), .int a, .ref o] f post mc ms) l yX6_rating wsX6_rating 4 108 G [.ref (am 0), .int a] (JW (am 0)) eI (LI G (al (15, 0)) (am 0) o n) := by
  have hsc := (e_s0 hS).1
  rcases e_inI (n := zN z 0) (by have := hS.1.np; omega) a with ⟨k, hk, rfl, hi⟩ | ⟨h1, hi⟩
  · rw [← hsc] at hi
    have hk9 : k < zN z 0 := hk
    have hv : ar 1 k = fi 1 k := by
      exact (hS.1.pl hk).1.symm
    refine op_0 (sc' := va_up sc 7 0) (ar' := ar) hM hW (by decide) (by decide) _ _ rfl (fun f2 => f2 = f) (h_rating_0 l G f _ _ _ (hR.2.1 (15, 0) dm15) (nI k) o g hW _ _ 0 0 (c_X5_rating_t l G f al fi z hR k hk) (fun f2 h => by subst h; exact FrC.rf)) (va_up_self _ _ _) (fun f2 h => by subst h; exact ⟨FrC.rf, al, fi, z, c, rfl, hR, hn, hS.s7 0⟩) (fun f1 h1 => ?_)
    rw [← hv]
    exact c_X6_rating_0 l G f1 am sc ar h1 k (by have := hS.1.np; omega) hi
  · rw [← hsc] at hi
    exact op_f hR hM hS hW hn 1 (by decide) (h_rating_1 l G f _ _ _ (hR.2.1 (15, 0) dm15) a o (c_X5_rating_x l hl G f al fi z hR a h1)) (c_X6_rating_e l G f am sc ar hM a hi)
theorem o_uncertainty (l : Launch) (hl : l.stackTraces = false) (hR : RC G al fi z f) (hM : RM G am sc ar f) (hS : SB c fi z sc ar) (hW : WD G o f g) (hn : zN z 2 ≤ n) (a : Int32) : OpT (fun mc ms post => Ch l yL_uncertainty wsL_uncertainty 11 202 G [.ref (al (15, 0)), .int a, .ref o] f post mc ms) l yX6_uncertainty wsX6_uncertainty 4 108 G [.ref (am 0), .int a] (JW (am 0)) eI (LI G (al (15, 0)) (am 0) o n) := by
  have hsc := (e_s0 hS).1
  rcases e_inI (n := zN z 0) (by have := hS.1.np; omega) a with ⟨k, hk, rfl, hi⟩ | ⟨h1, hi⟩
  · rw [← hsc] at hi
    have hk9 : k < zN z 0 := hk
    have hv : ar 2 k = fi 2 k := by
      exact (hS.1.pl hk).2.1.symm
    refine op_0 (sc' := va_up sc 7 0) (ar' := ar) hM hW (by decide) (by decide) _ _ rfl (fun f2 => f2 = f) (h_uncertainty_0 l G f _ _ _ (hR.2.1 (15, 0) dm15) (nI k) o g hW _ _ 0 0 (c_X5_uncertainty_t l G f al fi z hR k hk) (fun f2 h => by subst h; exact FrC.rf)) (va_up_self _ _ _) (fun f2 h => by subst h; exact ⟨FrC.rf, al, fi, z, c, rfl, hR, hn, hS.s7 0⟩) (fun f1 h1 => ?_)
    rw [← hv]
    exact c_X6_uncertainty_0 l G f1 am sc ar h1 k (by have := hS.1.np; omega) hi
  · rw [← hsc] at hi
    exact op_f hR hM hS hW hn 1 (by decide) (h_uncertainty_1 l G f _ _ _ (hR.2.1 (15, 0) dm15) a o (c_X5_uncertainty_x l hl G f al fi z hR a h1)) (c_X6_uncertainty_e l G f am sc ar hM a hi)
theorem o_level (l : Launch) (hl : l.stackTraces = false) (hR : RC G al fi z f) (hM : RM G am sc ar f) (hS : SB c fi z sc ar) (hW : WD G o f g) (hn : zN z 2 ≤ n) (a : Int32) : OpT (fun mc ms post => Ch l yL_level wsL_level 11 202 G [.ref (al (15, 0)), .int a, .ref o] f post mc ms) l yX6_level wsX6_level 4 108 G [.ref (am 0), .int a] (JW (am 0)) eI (LI G (al (15, 0)) (am 0) o n) := by
  have hsc := (e_s0 hS).1
  rcases e_inI (n := zN z 0) (by have := hS.1.np; omega) a with ⟨k, hk, rfl, hi⟩ | ⟨h1, hi⟩
  · rw [← hsc] at hi
    have hk9 : k < zN z 0 := hk
    have hv : ar 4 k = fi 3 k := by
      exact (hS.1.pl hk).2.2.2.1.symm
    refine op_0 (sc' := va_up sc 7 0) (ar' := ar) hM hW (by decide) (by decide) _ _ rfl (fun f2 => f2 = f) (h_level_0 l G f _ _ _ (hR.2.1 (15, 0) dm15) (nI k) o g hW _ _ 0 0 (c_X5_level_t l G f al fi z hR k hk) (fun f2 h => by subst h; exact FrC.rf)) (va_up_self _ _ _) (fun f2 h => by subst h; exact ⟨FrC.rf, al, fi, z, c, rfl, hR, hn, hS.s7 0⟩) (fun f1 h1 => ?_)
    rw [← hv]
    exact c_X6_level_0 l G f1 am sc ar h1 k (by have := hS.1.np; omega) hi
  · rw [← hsc] at hi
    exact op_f hR hM hS hW hn 1 (by decide) (h_level_1 l G f _ _ _ (hR.2.1 (15, 0) dm15) a o (c_X5_level_x l hl G f al fi z hR a h1)) (c_X6_level_e l G f am sc ar hM a hi)
theorem o_barred (l : Launch) (hl : l.stackTraces = false) (hR : RC G al fi z f) (hM : RM G am sc ar f) (hS : SB c fi z sc ar) (hW : WD G o f g) (hn : zN z 2 ≤ n) (a : Int32) : OpT (fun mc ms post => Ch l yL_barred wsL_barred 11 202 G [.ref (al (15, 0)), .int a, .ref o] f post mc ms) l yX6_barred wsX6_barred 4 108 G [.ref (am 0), .int a] (JW (am 0)) eI (LI G (al (15, 0)) (am 0) o n) := by
  have hsc := (e_s0 hS).1
  rcases e_inI (n := zN z 0) (by have := hS.1.np; omega) a with ⟨k, hk, rfl, hi⟩ | ⟨h1, hi⟩
  · rw [← hsc] at hi
    have hk9 : k < zN z 0 := hk
    have hv : (if ar 6 k ≤ sc 3 then 0 else ar 6 k - sc 3) = (if 0 < fi 4 k - fi 18 0 then fi 4 k - fi 18 0 else 0) := by
      obtain ⟨-, v, hv, e6⟩ := hS.2 k
      have hc9 := hS.1.1.2.2.2.2.2.2.2.2
      rw [(hS.1.pl hk).2.2.2.2.1, hS.1.ck, hS.1.1.2.2.2.1]
      exact (e_bar e6 rfl hv (by omega)).symm
    refine op_0 (sc' := va_up sc 7 0) (ar' := ar) hM hW (by decide) (by decide) _ _ rfl (fun f2 => f2 = f) (h_barred_0 l G f _ _ _ (hR.2.1 (15, 0) dm15) (nI k) o g hW _ _ 0 0 (c_X5_barred_t l G f al fi z hR k hk) (fun f2 h => by subst h; exact FrC.rf)) (va_up_self _ _ _) (fun f2 h => by subst h; exact ⟨FrC.rf, al, fi, z, c, rfl, hR, hn, hS.s7 0⟩) (fun f1 h1 => ?_)
    rw [← hv]
    exact c_X6_barred_0 l G f1 am sc ar h1 k (by have := hS.1.np; omega) hi
  · rw [← hsc] at hi
    exact op_f hR hM hS hW hn 1 (by decide) (h_barred_1 l G f _ _ _ (hR.2.1 (15, 0) dm15) a o (c_X5_barred_x l hl G f al fi z hR a h1)) (c_X6_barred_e l G f am sc ar hM a hi)
theorem o_matchState (l : Launch) (hl : l.stackTraces = false) (hR : RC G al fi z f) (hM : RM G am sc ar f) (hS : SB c fi z sc ar) (hW : WD G o f g) (hn : zN z 2 ≤ n) (a : Int32) : OpT (fun mc ms post => Ch l yL_matchState wsL_matchState 11 202 G [.ref (al (15, 0)), .int a, .ref o] f post mc ms) l yX6_matchState wsX6_matchState 3 87 G [.ref (am 0), .int a] (JW (am 0)) eI (LI G (al (15, 0)) (am 0) o n) := by
  have hsc := (e_s0 hS).2.2
  rcases e_inI (n := zN z 2) (by have := hS.1.nm; omega) a with ⟨k, hk, rfl, hi⟩ | ⟨h1, hi⟩
  · rw [← hsc] at hi
    have hk9 : k < zN z 2 := hk
    have hv : ar 15 k = fi 13 k := by
      exact (hS.1.mt hk).2.2.2.1.symm
    refine op_0 (sc' := va_up sc 7 0) (ar' := ar) hM hW (by decide) (by decide) _ _ rfl (fun f2 => f2 = f) (h_matchState_0 l G f _ _ _ (hR.2.1 (15, 0) dm15) (nI k) o g hW _ _ 0 0 (c_X5_matchState_t l G f al fi z hR k hk) (fun f2 h => by subst h; exact FrC.rf)) (va_up_self _ _ _) (fun f2 h => by subst h; exact ⟨FrC.rf, al, fi, z, c, rfl, hR, hn, hS.s7 0⟩) (fun f1 h1 => ?_)
    rw [← hv]
    exact c_X6_matchState_0 l G f1 am sc ar h1 k (by have := hS.1.nm; omega) hi
  · rw [← hsc] at hi
    exact op_f hR hM hS hW hn 1 (by decide) (h_matchState_1 l G f _ _ _ (hR.2.1 (15, 0) dm15) a o (c_X5_matchState_x l hl G f al fi z hR a h1)) (c_X6_matchState_1 l G f am sc ar hM a hi)
theorem o_unevenness (l : Launch) (hl : l.stackTraces = false) (hR : RC G al fi z f) (hM : RM G am sc ar f) (hS : SB c fi z sc ar) (hW : WD G o f g) (hn : zN z 2 ≤ n) (a : Int32) : OpT (fun mc ms post => Ch l yL_unevenness wsL_unevenness 11 202 G [.ref (al (15, 0)), .int a, .ref o] f post mc ms) l yX6_unevenness wsX6_unevenness 3 87 G [.ref (am 0), .int a] (JW (am 0)) eI (LI G (al (15, 0)) (am 0) o n) := by
  have hsc := (e_s0 hS).2.2
  rcases e_inI (n := zN z 2) (by have := hS.1.nm; omega) a with ⟨k, hk, rfl, hi⟩ | ⟨h1, hi⟩
  · rw [← hsc] at hi
    have hk9 : k < zN z 2 := hk
    have hv : ar 12 k = fi 11 k := by
      exact (hS.1.mt hk).2.2.1.symm
    refine op_0 (sc' := va_up sc 7 0) (ar' := ar) hM hW (by decide) (by decide) _ _ rfl (fun f2 => f2 = f) (h_unevenness_0 l G f _ _ _ (hR.2.1 (15, 0) dm15) (nI k) o g hW _ _ 0 0 (c_X5_unevenness_t l G f al fi z hR k hk) (fun f2 h => by subst h; exact FrC.rf)) (va_up_self _ _ _) (fun f2 h => by subst h; exact ⟨FrC.rf, al, fi, z, c, rfl, hR, hn, hS.s7 0⟩) (fun f1 h1 => ?_)
    rw [← hv]
    exact c_X6_unevenness_0 l G f1 am sc ar h1 k (by have := hS.1.nm; omega) hi
  · rw [← hsc] at hi
    exact op_f hR hM hS hW hn 1 (by decide) (h_unevenness_1 l G f _ _ _ (hR.2.1 (15, 0) dm15) a o (c_X5_unevenness_x l hl G f al fi z hR a h1)) (c_X6_unevenness_1 l G f am sc ar hM a hi)
theorem o_window (l : Launch) (hl : l.stackTraces = false) (hR : RC G al fi z f) (hM : RM G am sc ar f) (hS : SB c fi z sc ar) (hW : WD G o f g) (hn : zN z 2 ≤ n) (a : Int32) : OpT (fun mc ms post => Ch l yL_window wsL_window 12 224 G [.ref (al (15, 0)), .int a, .ref o] f post mc ms) l yX6_window wsX6_window 3 87 G [.ref (am 0), .int a] (JW (am 0)) eI (LI G (al (15, 0)) (am 0) o n) := by
  have hsc := (e_s0 hS).2.1
  rcases e_inI (n := zN z 1) (by have := hS.1.nt; omega) a with ⟨k, hk, rfl, hi⟩ | ⟨h1, hi⟩
  · rw [← hsc] at hi
    have hk100 : k < 100 := by have := hS.1.nt; omega
    have h9 : ar 9 k = bI (decide (fi 7 k = 1)) := (hS.1.pt hk).2.2.2.2.2.2.1
    by_cases hq : fi 7 k = 1
    · rw [decide_eq_true hq] at h9
      have hv : wnI (sc 3) (ar 8 k) = wnC fi k (fi 18 0) := by
        rw [hS.1.ck, hS.1.1.2.2.2.1, ← (hS.1.pt hk).2.1]
        rfl
      refine op_0 (sc' := va_up sc 7 0) (ar' := ar) hM hW (by decide) (by decide) _ _ rfl (fun f2 => f2 = f) (h_window_0 l G f _ _ _ (hR.2.1 (15, 0) dm15) (nI k) o g hW _ _ 0 0 (c_X5_window_t l G f al fi z hR k hk hq) (fun f2 h => by subst h; exact FrC.rf)) (va_up_self _ _ _) (fun f2 h => by subst h; exact ⟨FrC.rf, al, fi, z, c, rfl, hR, hn, hS.s7 0⟩) (fun f1 h1 => ?_)
      rw [← hv]
      exact c_X6_window_0 l G f1 am sc ar h1 k hk100 hi h9
    · rw [decide_eq_false hq] at h9
      exact op_f hR hM hS hW hn 2 (by decide) (h_window_2 l G f _ _ _ (hR.2.1 (15, 0) dm15) (nI k) o (c_X5_window_s l hl G f al fi z hR k hk hq)) (c_X6_window_2 l G f am sc ar hM k hk100 hi h9)
  · rw [← hsc] at hi
    exact op_f hR hM hS hW hn 1 (by decide) (h_window_1 l G f _ _ _ (hR.2.1 (15, 0) dm15) a o (c_X5_window_x l hl G f al fi z hR a h1)) (c_X6_window_1 l G f am sc ar hM a hi)
theorem o_leave (l : Launch) (hl : l.stackTraces = false) (hR : RC G al fi z f) (hM : RM G am sc ar f) (hS : SB c fi z sc ar) (hW : WD G o f g) (hn : zN z 2 ≤ n) (a : Int32) : OpT (fun mc ms post => Ch l yL_leave wsL_leave 12 225 G [.ref (al (15, 0)), .int a, .ref o] f post mc ms) l yX6_leave wsX6_leave 3 88 G [.ref (am 0), .int a] (JW (am 0)) eI (LI G (al (15, 0)) (am 0) o n) := by
  have hsc := (e_s0 hS).2.1
  rcases e_inI (n := zN z 1) (by have := hS.1.nt; omega) a with ⟨k, hk, rfl, hi⟩ | ⟨h1, hi⟩
  · rw [← hsc] at hi
    have hk100 : k < 100 := by have := hS.1.nt; omega
    have h9 : ar 9 k = bI (decide (fi 7 k = 1)) := (hS.1.pt hk).2.2.2.2.2.2.1
    by_cases hq : fi 7 k = 1
    · rw [decide_eq_true hq] at h9
      have hv : sc 3 - ar 8 k = fi 18 0 - fi 6 k := by
        rw [hS.1.ck, hS.1.1.2.2.2.1, ← (hS.1.pt hk).2.1]
      refine op_0 (sc' := va_up sc 7 0) (ar' := va_up (va_up ar 9 (va_up (ar 9) k 0)) 5 (becF (zN z 0) (ar 7 k) 0 (ar 5))) hM hW (by decide) (by decide) _ _ rfl (fun f2 => RC G al (fu fi 7 k 0) z f2 ∧ FrC f f2) (h_leave_0 l G f _ _ _ (hR.2.1 (15, 0) dm15) (nI k) o g hW _ _ 0 0 (c_X5_leave_t l G f al fi z hR k hk hq) (fun f2 h => h.2)) (va_up_self sc 7 0) (fun f2 h => ⟨h.2, al, _, z, c, rfl, h.1, hn, hS.1.lea (ar' := va_up (va_up ar 9 (va_up (ar 9) k 0)) 5 (becF (zN z 0) (ar 7 k) 0 (ar 5))) hk hq (fun j hj => va_up_ne _ _ (by omega)) (fun j h5 h9 => by rw [va_up_ne _ _ h5, va_up_ne _ _ h9]) (va_up_self _ _ _) (by rw [va_up_ne _ _ (show (9 : Nat) ≠ 5 by decide), va_up_self]), hS.2.same (by rw [va_up_ne _ _ (show (4 : Nat) ≠ 5 by decide), va_up_ne _ _ (show (4 : Nat) ≠ 9 by decide)]) (by rw [va_up_ne _ _ (show (6 : Nat) ≠ 5 by decide), va_up_ne _ _ (show (6 : Nat) ≠ 9 by decide)])⟩) (fun f1 h1 => ?_)
      rw [← hv]
      exact c_X6_leave_0 l G f1 am sc ar h1 (zN z 0) (e_s0 hS).1 hS.1.np k hk100 hi h9
    · rw [decide_eq_false hq] at h9
      exact op_f hR hM hS hW hn 2 (by decide) (h_leave_2 l G f _ _ _ (hR.2.1 (15, 0) dm15) (nI k) o (c_X5_leave_s l hl G f al fi z hR k hk hq)) (c_X6_leave_2 l G f am sc ar hM k hk100 hi h9)
  · rw [← hsc] at hi
    exact op_f hR hM hS hW hn 1 (by decide) (h_leave_1 l G f _ _ _ (hR.2.1 (15, 0) dm15) a o (c_X5_leave_x l hl G f al fi z hR a h1)) (c_X6_leave_1 l G f am sc ar hM a hi)
theorem o_fit (l : Launch) (hl : l.stackTraces = false) (hR : RC G al fi z f) (hM : RM G am sc ar f) (hS : SB c fi z sc ar) (hW : WD G o f g) (hn : zN z 2 ≤ n) (a a2 : Int32) : OpT (fun mc ms post => Ch l yL_fit wsL_fit 13 249 G [.ref (al (15, 0)), .int a, .int a2, .ref o] f post mc ms) l yX6_fit wsX6_fit 4 111 G [.ref (am 0), .int a, .int a2] (JW (am 0)) eB (LI G (al (15, 0)) (am 0) o n) := by
  have hsc := (e_s0 hS).2.1
  have ht := hS.1.nt
  rcases e_inI (n := zN z 1) (by omega) a2 with ⟨k2, hk2, rfl, hi2⟩ | ⟨h2, hi2⟩
  · rw [← hsc] at hi2
    rcases e_inI (n := zN z 1) (by omega) a with ⟨k, hk, rfl, hi⟩ | ⟨h1, hi⟩
    · rw [← hsc] at hi
      have h9 : ar 9 k = bI (decide (fi 7 k = 1)) := (hS.1.pt hk).2.2.2.2.2.2.1
      have h92 : ar 9 k2 = bI (decide (fi 7 k2 = 1)) := (hS.1.pt hk2).2.2.2.2.2.2.1
      by_cases hq : fi 7 k = 1
      · rw [decide_eq_true hq] at h9
        by_cases hq2 : fi 7 k2 = 1
        · rw [decide_eq_true hq2] at h92
          have hz : ∀ t, t < zN z 1 → ¬ szI (ar 7 t) = 0 := fun t ht9 e => by
            have hp := hS.1.pt ht9
            rw [← hp.1, q_szI, ← hp.2.2.1] at e
            exact absurd e (nI_ne0 hp.2.2.2.2.1.1 (by have := hp.2.2.2.2.1.2; omega))
          refine op_0 (sc' := va_up sc 7 0) (ar' := ar) hM hW (by decide) (by decide) _ _ ⟨_, rfl, rfl⟩ (fun f2 => f2 = f) (h_fit_0 l G f _ _ _ (hR.2.1 (15, 0) dm15) (nI k) (nI k2) o g hW (ftC fi z (fi 18 0) k k2) _ 0 0 (c_X5_fit_t l G f al fi z hR k k2 hk hk2 hq hq2) (fun f2 h => by subst h; exact FrC.rf)) (va_up_self _ _ _) (fun f2 h => by subst h; exact ⟨FrC.rf, al, fi, z, c, rfl, hR, hn, hS.s7 0⟩) (fun f1 h1 => ?_)
          rw [← hS.1.ft2 hk hk2]
          exact c_X6_fit_0 l G f1 am sc ar h1 (zN z 0) (e_s0 hS).1 hS.1.np k k2 (by omega) (by omega) hi hi2 h9 h92 (hz k hk) (hz k2 hk2)
        · rw [decide_eq_false hq2] at h92
          exact op_f hR hM hS hW hn 2 (by decide) (h_fit_2 l G f _ _ _ (hR.2.1 (15, 0) dm15) (nI k) (nI k2) o (c_X5_fit_s2 l hl G f al fi z hR k k2 hk hk2 hq hq2)) (c_X6_fit_2b l G f am sc ar hM k k2 (by omega) (by omega) hi hi2 h9 h92)
      · rw [decide_eq_false hq] at h9
        exact op_f hR hM hS hW hn 2 (by decide) (h_fit_2 l G f _ _ _ (hR.2.1 (15, 0) dm15) (nI k) (nI k2) o (c_X5_fit_s1 l hl G f al fi z hR k k2 hk hk2 hq)) (c_X6_fit_2a l G f am sc ar hM k k2 (by omega) (by omega) hi hi2 h9)
    · rw [← hsc] at hi
      exact op_f hR hM hS hW hn 1 (by decide) (h_fit_1 l G f _ _ _ (hR.2.1 (15, 0) dm15) a (nI k2) o (c_X5_fit_x1 l hl G f al fi z hR a k2 hk2 h1)) (c_X6_fit_1a l G f am sc ar hM a (nI k2) hi)
  · rw [← hsc] at hi2
    have hA := h_fit_1 l G f _ _ _ (hR.2.1 (15, 0) dm15) a a2 o (c_X5_fit_x2 l hl G f al fi z hR a a2 h2)
    rcases e_inI (n := zN z 1) (by omega) a with ⟨k, hk, rfl, hi⟩ | ⟨h1, hi⟩
    · rw [← hsc] at hi
      exact op_f hR hM hS hW hn 1 (by decide) hA (c_X6_fit_1b l G f am sc ar hM (nI k) a2 hi hi2)
    · rw [← hsc] at hi
      exact op_f hR hM hS hW hn 1 (by decide) hA (c_X6_fit_1a l G f am sc ar hM a a2 hi)
theorem o_team (l : Launch) (hl : l.stackTraces = false) (hR : RC G al fi z f) (hM : RM G am sc ar f) (hS : SB c fi z sc ar) (hW : WD G o f g) (hn : zN z 2 ≤ n) (a a2 : Int32) : OpT (fun mc ms post => Ch l yL_team wsL_team 11 204 G [.ref (al (15, 0)), .int a, .int a2, .ref o] f post mc ms) l yX6_team wsX6_team 3 87 G [.ref (am 0), .int a, .int a2] (JW (am 0)) eI (LI G (al (15, 0)) (am 0) o n) := by
  have hsc := (e_s0 hS).2.2
  have ht := hS.1.nm
  rcases e_inI (n := zN z 2) (by omega) a with ⟨k, hk, rfl, hi⟩ | ⟨h1, hi⟩
  · rw [← hsc] at hi
    rcases e_in2 a2 with h2 | h2
    · exact op_f hR hM hS hW hn 2 (by decide) (h_team_2 l G f _ _ _ (hR.2.1 (15, 0) dm15) (nI k) a2 o (c_X5_team_a l hl G f al fi z hR k hk a2 (fun q => by
        rcases q with rfl | rfl <;> rcases h2 with h2 | h2 <;> exact absurd h2 (by decide)))) (c_X6_team_2 l G f am sc ar hM (nI k) a2 hi (e_inF h2))
    · obtain ⟨x, hx, rfl, hxi⟩ : ∃ x, x < 2 ∧ a2 = nI x ∧ inI a2 0 1 = true := by
        rcases h2 with rfl | rfl
        · exact ⟨0, by decide, rfl, by decide⟩
        · exact ⟨1, by decide, rfl, by decide⟩
      have hv : ar 11 (2 * k + x) = if nI x = 0 then fi 9 k else fi 10 k := by
        obtain ⟨m1, m2, -⟩ := hS.1.mt hk
        rcases h2 with q | q
        · rw [if_pos q, show x = 0 by have := (nI_eq (b := 0) (by omega) (by decide)).mp q; omega]; exact m1.symm
        · rw [if_neg (by rw [q]; decide), show x = 1 by have := (nI_eq (b := 1) (by omega) (by decide)).mp q; omega]; exact m2.symm
      refine op_0 (sc' := va_up sc 7 0) (ar' := ar) hM hW (by decide) (by decide) _ _ rfl (fun f2 => f2 = f) (h_team_0 l G f _ _ _ (hR.2.1 (15, 0) dm15) (nI k) (nI x) o g hW _ _ 0 0 (c_X5_team_t l G f al fi z hR k hk (nI x) h2) (fun f2 h => by subst h; exact FrC.rf)) (va_up_self _ _ _) (fun f2 h => by subst h; exact ⟨FrC.rf, al, fi, z, c, rfl, hR, hn, hS.s7 0⟩) (fun f1 h1 => ?_)
      rw [← hv]
      exact c_X6_team_0 l G f1 am sc ar h1 k (by omega) hi x hx hxi
  · rw [← hsc] at hi
    exact op_f hR hM hS hW hn 1 (by decide) (h_team_1 l G f _ _ _ (hR.2.1 (15, 0) dm15) a a2 o (c_X5_team_x l hl G f al fi z hR a a2 h1)) (c_X6_team_1 l G f am sc ar hM a a2 hi)
end LO
