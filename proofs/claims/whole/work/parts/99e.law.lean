/-! ===== the operations that change the state ===== -/
section LO
variable {G : GG} {al : Tg → Nat} {am : Nat → Nat} {fi : Nat → Nat → Int32} {z : CZ} {sc : Nat → Int32} {ar : Nat → Nat → Int32} {c : Nat} {g : Nat → Int64} {f : Wo} {o n : Nat}
theorem o_addPlayer (l : Launch) (hl : l.stackTraces = false) (hR : RC G al fi z f) (hM : RM G am sc ar f) (hS : SB c fi z sc ar) (hW : WD G o f g) (hn : zN z 2 ≤ n) (a a2 : Int32) : OpT (fun mc ms post => Ch l yL_addPlayer wsL_addPlayer 13 250 G [.ref (al (15, 0)), .int a, .int a2, .ref o] f post mc ms) l yX6_addPlayer wsX6_addPlayer 2 66 G [.ref (am 0), .int a, .int a2] (JW (am 0)) eI (LI G (al (15, 0)) (am 0) o n) := by
  have hsc := (e_s0 hS).1
  have ht := hS.1.np
  have hA1 : ∀ (h : a < 0 ∨ 4000 < a ∨ a2 < 1 ∨ 7 < a2), _ := fun h => h_addPlayer_1 l G f _ _ _ (hR.2.1 (15, 0) dm15) a a2 o (c_X5_addPlayer_x l hl G f al fi z hR a a2 h)
  by_cases h1 : a < 0
  · exact op_f hR hM hS hW hn 1 (by decide) (hA1 (Or.inl h1)) (c_X6_addPlayer_1a l G f am sc ar hM a a2 (e_inF (Or.inl h1)))
  by_cases h2 : 4000 < a
  · exact op_f hR hM hS hW hn 1 (by decide) (hA1 (Or.inr (Or.inl h2))) (c_X6_addPlayer_1a l G f am sc ar hM a a2 (e_inF (Or.inr h2)))
  have hi := e_inB h1 h2
  by_cases h3 : a2 < 1
  · exact op_f hR hM hS hW hn 1 (by decide) (hA1 (Or.inr (Or.inr (Or.inl h3)))) (c_X6_addPlayer_1b l G f am sc ar hM a a2 hi (e_inF (Or.inl h3)))
  by_cases h4 : 7 < a2
  · exact op_f hR hM hS hW hn 1 (by decide) (hA1 (Or.inr (Or.inr (Or.inr h4)))) (c_X6_addPlayer_1b l G f am sc ar hM a a2 hi (e_inF (Or.inr h4)))
  have hi2 := e_inB h3 h4
  have h1 := Int32.not_lt.mp h1
  have h2 := Int32.not_lt.mp h2
  have h3 := Int32.not_lt.mp h3
  have h4 := Int32.not_lt.mp h4
  by_cases h5 : zN z 0 < 18
  · have hcap : cap2 (zC z (13, 0)) (zN z 0) ≤ 25 := (cap2_le hS.1.2.2.2.2.2.2.1 (by omega) (by
      have := (hR.cap (dl13 (by decide) : dol (zN z) (13, 0))).2
      rwa [hR.len (by decide)] at this)).1
    have hro : ∃ x, 0 < x ∧ x < 8 ∧ a2 = nI x := by
      obtain ⟨x, hx, rfl⟩ := nI_of2 (M := 7) (n := 7) rfl (fun q => Int32.lt_irrefl (Int32.lt_trans q (Int32.lt_of_lt_of_le (by decide : (0 : Int32) < 1) h3))) h4
      refine ⟨x, Nat.pos_of_ne_zero fun q => ?_, by omega, rfl⟩
      subst q
      exact absurd h3 (by decide)
    refine op_0 (sc' := va_up (va_up sc 7 0) 0 (nI (zN z 0) + 1)) (ar' := va_up (va_up (va_up ar 1 (va_up (ar 1) (zN z 0) a)) 3 (va_up (ar 3) (zN z 0) a2)) 2 (va_up (ar 2) (zN z 0) 350)) hM hW (by decide) (by decide) _ _ rfl (fun f2 => ∃ al' : Tg → Nat, al' (15, 0) = al (15, 0) ∧ RC G al' (adF fi (zN z 0) a a2) (zP z (cap2 (zC z (13, 0)) (zN z 0))) f2 ∧ FrC f f2) (h_addPlayer_0 l G f _ _ _ (hR.2.1 (15, 0) dm15) a a2 o g hW (nI (zN z 0)) _ 2 31 ((c_X5_addPlayer_t l G f al fi z hR a a2 h1 h2 h3 h4 h5 hS.1.2.2.2.2.2.2.1).mono fun r f' q => by
      obtain ⟨al', e1, e2, e3, e4⟩ := q
      exact ⟨e1, al', e2, e3, e4⟩) (fun f2 h => h.choose_spec.2.2)) ((va_up_ne _ _ (by decide)).trans (va_up_self sc 7 0)) (fun f2 h => ?_) (fun f1 h1' => c_X6_addPlayer_0 l G f1 am sc ar h1' a a2 hi hi2 (zN z 0) hsc h5)
    obtain ⟨al', e2, e3, e4⟩ := h
    refine ⟨e4, al', _, _, c, e2, e3, ?_, hS.1.add h5 hcap hro (by rw [va_up_self, nI_1]) (fun j hj h0 => by rw [va_up_ne _ _ h0, va_up_ne _ _ (by omega)]) (fun j j1 j2 j3 => by rw [va_up_ne _ _ j2, va_up_ne _ _ j3, va_up_ne _ _ j1]) ?_ ?_ ?_, hS.2.same ?_ ?_⟩
    · show va_up (zN z) 0 (zN z 0 + 1) 2 ≤ n
      rw [va_up_ne _ _ (by decide)]
      exact hn
    · rw [va_up_ne _ _ (show (1 : Nat) ≠ 2 by decide), va_up_ne _ _ (show (1 : Nat) ≠ 3 by decide), va_up_self]
    · rw [va_up_self]
    · rw [va_up_ne _ _ (show (3 : Nat) ≠ 2 by decide), va_up_self]
    · rw [va_up_ne _ _ (show (4 : Nat) ≠ 2 by decide), va_up_ne _ _ (show (4 : Nat) ≠ 3 by decide), va_up_ne _ _ (show (4 : Nat) ≠ 1 by decide)]
    · rw [va_up_ne _ _ (show (6 : Nat) ≠ 2 by decide), va_up_ne _ _ (show (6 : Nat) ≠ 3 by decide), va_up_ne _ _ (show (6 : Nat) ≠ 1 by decide)]
  · exact op_f hR hM hS hW hn 2 (by decide) (h_addPlayer_2 l G f _ _ _ (hR.2.1 (15, 0) dm15) a a2 o (c_X5_addPlayer_s l hl G f al fi z hR a a2 h1 h2 h3 h4 (by omega))) (c_X6_addPlayer_2 l G f am sc ar hM a a2 hi hi2 (by rw [hsc, show zN z 0 = 18 by omega]; rfl))
theorem o_queue (l : Launch) (hl : l.stackTraces = false) (hR : RC G al fi z f) (hM : RM G am sc ar f) (hS : SB c fi z sc ar) (hW : WD G o f g) (hn : zN z 2 ≤ n) (a : Int32) : OpT (fun mc ms post => Ch l yL_queue wsL_queue 14 272 G [.ref (al (15, 0)), .int a, .ref o] f post mc ms) l yX6_queue wsX6_queue 3 88 G [.ref (am 0), .int a] (JW (am 0)) eI (LI G (al (15, 0)) (am 0) o n) := by
  have hsc := e_s0 hS
  have ht := hS.1.np
  cases hg : gdB (zN z 0) a with
  | false => exact op_f hR hM hS hW hn 1 (by decide) (h_queue_1 l G f _ _ _ (hR.2.1 (15, 0) dm15) a o (c_X5_queue_x l hl G f al fi z hR a (e_gd_f ht hg))) (c_X6_queue_1 l G f am sc ar hM (zN z 0) hsc.1 ht a hg)
  | true =>
    obtain ⟨g1, g2, g3, g4, g5, g6⟩ := e_gd_t ht hg
    have hfq := hS.1.frq a
    cases hf : frB (sc 1) (ar 5) (ar 6) (sc 3) a (zN z 0) with
    | false =>
      rw [hf] at hfq
      refine op_f hR hM hS hW hn 2 (by decide) (h_queue_2 l G f _ _ _ (hR.2.1 (15, 0) dm15) a o (c_X5_queue_s l hl G f al fi z hR a g1 g2 g3 ?_)) (c_X6_queue_2 l G f am sc ar hM (zN z 0) hsc.1 ht a hg hf)
      by_cases h100 : zN z 1 < 100
      · refine Or.inr ?_
        rw [decide_eq_true h100, Bool.true_and] at hfq
        exact hfq.symm
      · exact Or.inl (by omega)
    | true =>
      rw [hf] at hfq
      obtain ⟨h100, hmq⟩ := Bool.and_eq_true_iff.mp hfq.symm
      have h100 := of_decide_eq_true h100
      refine op_0 (sc' := va_up (va_up sc 7 0) 1 (nI (zN z 1) + 1)) (ar' := va_up (va_up (va_up (va_up (va_up ar 7 (va_up (ar 7) (zN z 1) a)) 8 (va_up (ar 8) (zN z 1) (sc 3))) 9 (va_up (ar 9) (zN z 1) 1)) 10 (va_up (ar 10) (zN z 1) (-1))) 5 (becF (zN z 0) a 1 (ar 5))) hM hW (by decide) (by decide) _ _ rfl (fun f2 => ∃ (al' : Tg → Nat) (cap cm : Nat), al' (15, 0) = al (15, 0) ∧ cap ≤ 160 ∧ RC G al' (quF fi (zN z 1) a (fi 18 0) (JQ a (zN z 0))) (zQ z (laQ z (JQ a (zN z 0))) (JQ a (zN z 0)) cap cm) f2 ∧ FrC f f2) (h_queue_0 l G f _ _ _ (hR.2.1 (15, 0) dm15) a o g hW (nI (zN z 1)) _ 4 178 ((c_X5_queue_t l G f al fi z hR a g1 g2 g3 h100 hmq hS.1.2.2.2.2.2.2.2.1 g6).mono fun r f' q => by
        obtain ⟨al', cap, cm, e1, e2, e3, e4, e5⟩ := q
        exact ⟨e2, al', cap, cm, e1, e3, e4, e5⟩) (fun f2 h => h.choose_spec.choose_spec.choose_spec.2.2.2)) ((va_up_ne _ _ (by decide)).trans (va_up_self sc 7 0)) (fun f2 h => ?_) (fun f1 h1' => c_X6_queue_0 l G f1 am sc ar h1' (zN z 0) hsc.1 ht a hg hf (zN z 1) hsc.2.1 h100)
      obtain ⟨al', cap, cm, e1, e3, e4, e5⟩ := h
      refine ⟨e5, al', _, _, c, e1, e4, ?_, hS.1.que h100 e3 g4 g5 g6 (fun k hk hb => ?_) (by rw [va_up_self, nI_1]) (fun j hj h0 => by rw [va_up_ne _ _ h0, va_up_ne _ _ (by omega)]) (fun j j5 j7 j8 j9 j10 => by rw [va_up_ne _ _ j5, va_up_ne _ _ j10, va_up_ne _ _ j9, va_up_ne _ _ j8, va_up_ne _ _ j7]) ?_ ?_ ?_ ?_ ?_, hS.2.same ?_ ?_⟩
      · show va_up (zN z) 1 (zN z 1 + 1) 2 ≤ n
        rw [va_up_ne _ _ (by decide)]
        exact hn
      · have := e_all hmq hk
        unfold mqT at this
        rw [hsI_gb a (by omega), hb] at this
        exact of_decide_eq_true (Bool.and_eq_true_iff.mp this).1
      · rw [va_up_self]
      · rw [va_up_ne _ _ (show (7 : Nat) ≠ 5 by decide), va_up_ne _ _ (show (7 : Nat) ≠ 10 by decide), va_up_ne _ _ (show (7 : Nat) ≠ 9 by decide), va_up_ne _ _ (show (7 : Nat) ≠ 8 by decide), va_up_self]
      · rw [va_up_ne _ _ (show (8 : Nat) ≠ 5 by decide), va_up_ne _ _ (show (8 : Nat) ≠ 10 by decide), va_up_ne _ _ (show (8 : Nat) ≠ 9 by decide), va_up_self, hS.1.1.2.2.2.1]
      · rw [va_up_ne _ _ (show (9 : Nat) ≠ 5 by decide), va_up_ne _ _ (show (9 : Nat) ≠ 10 by decide), va_up_self]
      · rw [va_up_ne _ _ (show (10 : Nat) ≠ 5 by decide), va_up_self]
      · rw [va_up_ne _ _ (show (4 : Nat) ≠ 5 by decide), va_up_ne _ _ (show (4 : Nat) ≠ 10 by decide), va_up_ne _ _ (show (4 : Nat) ≠ 9 by decide), va_up_ne _ _ (show (4 : Nat) ≠ 8 by decide), va_up_ne _ _ (show (4 : Nat) ≠ 7 by decide)]
      · rw [va_up_ne _ _ (show (6 : Nat) ≠ 5 by decide), va_up_ne _ _ (show (6 : Nat) ≠ 10 by decide), va_up_ne _ _ (show (6 : Nat) ≠ 9 by decide), va_up_ne _ _ (show (6 : Nat) ≠ 8 by decide), va_up_ne _ _ (show (6 : Nat) ≠ 7 by decide)]
theorem o_accept (l : Launch) (hl : l.stackTraces = false) (hR : RC G al fi z f) (hM : RM G am sc ar f) (hS : SB c fi z sc ar) (hW : WD G o f g) (hn : zN z 2 ≤ n) (a a2 : Int32) : OpT (fun mc ms post => Ch l yL_accept wsL_accept 12 227 G [.ref (al (15, 0)), .int a, .int a2, .ref o] f post mc ms) l yX6_accept wsX6_accept 4 109 G [.ref (am 0), .int a, .int a2] (JW (am 0)) eB (LI G (al (15, 0)) (am 0) o n) := by
  have hsc := e_s0 hS
  have ht := hS.1.np
  have hm9 := hS.1.nm
  rcases e_inI (n := zN z 2) (by omega) a with ⟨m, hm, rfl, hi⟩ | ⟨h1, hi⟩
  · rw [← hsc.2.2] at hi
    rcases e_inI (n := zN z 0) (by omega) a2 with ⟨k, hk, rfl, hi2⟩ | ⟨h2, hi2⟩
    · rw [← hsc.1] at hi2
      obtain ⟨-, -, -, m13, -, -, m0⟩ := hS.1.mt hm
      have hA2 : ∀ (h : awC fi m (nI k) = false), _ := fun h => h_accept_2 l G f _ _ _ (hR.2.1 (15, 0) dm15) (nI m) (nI k) o (c_X5_accept_s l hl G f al fi z hR m k hm hk h)
      by_cases hst : fi 13 m = 0
      · have h15 : ar 15 m = 0 := m13.symm.trans hst
        have hlt : fi 14 m = lateI (ar 11) (ar 14) m := (m0 hst).1
        cases hh : hsI (lateI (ar 11) (ar 14) m) (nI k) with
        | false => exact op_f hR hM hS hW hn 2 (by decide) (hA2 (by unfold awC; rw [hlt, hh, Bool.and_false])) (c_X6_accept_e l G f am sc ar hM (nI m) (nI k) 2 (by decide) (fun l => c_X6_faultOf_2b l G f am sc ar hM m (by omega) (nI k) hi hi2 h15 hh))
        | true =>
          have haw : awC fi m (nI k) = true := by unfold awC; rw [hlt, hh, decide_eq_true hst]; rfl
          have hb : gb (fi 14 m) k = true := by rw [hlt, ← hsI_gb _ (by omega)]; exact hh
          have hacc := hS.1.acc (sc' := va_up sc 7 0) (ar' := va_up (va_up ar 14 (va_up (ar 14) m (ar 14 m ||| 1 <<< (nI k &&& 31)))) 15 (va_up (ar 15) m (bI (decide ((ar 14 m ||| 1 <<< (nI k &&& 31)) = allI (ar 11) m))))) hm (by omega) hst hb (fun j hj => va_up_ne _ _ (by omega)) (fun j j1 j2 => by rw [va_up_ne _ _ j2, va_up_ne _ _ j1]) (by rw [va_up_ne _ _ (show (14 : Nat) ≠ 15 by decide), va_up_self]) (va_up_self _ _ _)
          refine op_0 (sc' := va_up sc 7 0) (ar' := va_up (va_up ar 14 (va_up (ar 14) m (ar 14 m ||| 1 <<< (nI k &&& 31)))) 15 (va_up (ar 15) m (bI (decide ((ar 14 m ||| 1 <<< (nI k &&& 31)) = allI (ar 11) m))))) hM hW (by decide) (by decide) _ _ ⟨_, rfl, rfl⟩ (fun f2 => RC G al (taF fi m (nI k)) z f2 ∧ FrC f f2) (h_accept_0 l G f _ _ _ (hR.2.1 (15, 0) dm15) (nI m) (nI k) o g hW (decide (taF fi m (nI k) 13 m = 1)) _ 0 0 (c_X5_accept_t l G f al fi z hR m k hm hk haw) (fun f2 h => h.2)) (va_up_self _ _ _) (fun f2 h => ⟨h.2, al, _, z, c, rfl, h.1, hn, hacc.1, hS.2.same (by rw [va_up_ne _ _ (show (4 : Nat) ≠ 15 by decide), va_up_ne _ _ (show (4 : Nat) ≠ 14 by decide)]) (by rw [va_up_ne _ _ (show (6 : Nat) ≠ 15 by decide), va_up_ne _ _ (show (6 : Nat) ≠ 14 by decide)])⟩) (fun f1 h1 => ?_)
          rw [hacc.2]
          exact c_X6_accept_0 l G f1 am sc ar h1 m (by omega) (nI k) (fun l => c_X6_faultOf_0 l G f1 am sc ar h1 m (by omega) (nI k) hi hi2 h15 hh)
      · exact op_f hR hM hS hW hn 2 (by decide) (hA2 (by unfold awC; rw [decide_eq_false hst]; rfl)) (c_X6_accept_e l G f am sc ar hM (nI m) (nI k) 2 (by decide) (fun l => c_X6_faultOf_2a l G f am sc ar hM m (by omega) (nI k) hi hi2 (fun q => hst (m13.trans q))))
    · rw [← hsc.1] at hi2
      exact op_f hR hM hS hW hn 1 (by decide) (h_accept_1 l G f _ _ _ (hR.2.1 (15, 0) dm15) (nI m) a2 o (c_X5_accept_x2 l hl G f al fi z hR m hm a2 h2)) (c_X6_accept_e l G f am sc ar hM (nI m) a2 1 (by decide) (fun l => c_X6_faultOf_1b l G f am sc ar hM (nI m) a2 hi hi2))
  · rw [← hsc.2.2] at hi
    exact op_f hR hM hS hW hn 1 (by decide) (h_accept_1 l G f _ _ _ (hR.2.1 (15, 0) dm15) a a2 o (c_X5_accept_x1 l hl G f al fi z hR a a2 h1)) (c_X6_accept_e l G f am sc ar hM a a2 1 (by decide) (fun l => c_X6_faultOf_1a l G f am sc ar hM a a2 hi))
theorem o_decline (l : Launch) (hl : l.stackTraces = false) (hR : RC G al fi z f) (hM : RM G am sc ar f) (hS : SB c fi z sc ar) (hW : WD G o f g) (hn : zN z 2 ≤ n) (a a2 : Int32) : OpT (fun mc ms post => Ch l yL_decline wsL_decline 12 228 G [.ref (al (15, 0)), .int a, .int a2, .ref o] f post mc ms) l yX6_decline wsX6_decline 4 111 G [.ref (am 0), .int a, .int a2] (JW (am 0)) eI (LI G (al (15, 0)) (am 0) o n) := by
  have hsc := e_s0 hS
  have ht := hS.1.np
  have hm9 := hS.1.nm
  rcases e_inI (n := zN z 2) (by omega) a with ⟨m, hm, rfl, hi⟩ | ⟨h1, hi⟩
  · rw [← hsc.2.2] at hi
    rcases e_inI (n := zN z 0) (by omega) a2 with ⟨k, hk, rfl, hi2⟩ | ⟨h2, hi2⟩
    · rw [← hsc.1] at hi2
      obtain ⟨-, -, -, m13, -, -, m0⟩ := hS.1.mt hm
      have hA2 : ∀ (h : awC fi m (nI k) = false), _ := fun h => h_decline_2 l G f _ _ _ (hR.2.1 (15, 0) dm15) (nI m) (nI k) o (c_X5_decline_s l hl G f al fi z hR m k hm hk h)
      by_cases hst : fi 13 m = 0
      · have h15 : ar 15 m = 0 := m13.symm.trans hst
        have hlt : fi 14 m = lateI (ar 11) (ar 14) m := (m0 hst).1
        cases hh : hsI (lateI (ar 11) (ar 14) m) (nI k) with
        | false => exact op_f hR hM hS hW hn 2 (by decide) (hA2 (by unfold awC; rw [hlt, hh, Bool.and_false])) (c_X6_decline_e l G f am sc ar hM (nI m) (nI k) 2 (by decide) (fun l => c_X6_faultOf_2b l G f am sc ar hM m (by omega) (nI k) hi hi2 h15 hh))
        | true =>
          have haw : awC fi m (nI k) = true := by unfold awC; rw [hlt, hh, decide_eq_true hst]; rfl
          have hb : gb (fi 14 m) k = true := by rw [hlt, ← hsI_gb _ (by omega)]; exact hh
          have hdec := hS.1.dec (sc' := va_up sc 7 0) (ar' := va_up (va_up (endA (zN z 0) (zN z 1) m (1 <<< (nI k &&& 31)) ar) 4 (va_up (ar 4) k (lvI (ar 4 k)))) 6 (va_up (ar 6) k (sc 3 + mtI (ar 4 k)))) hm hk hst hb (fun j hj => va_up_ne _ _ (by omega)) rfl
          have hc9 := hS.1.1.2.2.2.2.2.2.2.2
          refine op_0 (sc' := va_up sc 7 0) (ar' := va_up (va_up (endA (zN z 0) (zN z 1) m (1 <<< (nI k &&& 31)) ar) 4 (va_up (ar 4) k (lvI (ar 4 k)))) 6 (va_up (ar 6) k (sc 3 + mtI (ar 4 k)))) hM hW (by decide) (by decide) _ _ rfl (fun f2 => RC G al (dcF fi z m k) z f2 ∧ FrC f f2) (h_decline_0 l G f _ _ _ (hR.2.1 (15, 0) dm15) (nI m) (nI k) o g hW _ _ 0 0 (c_X5_decline_t l G f al fi z hR m k hm hk haw) (fun f2 h => h.2)) (va_up_self _ _ _) (fun f2 h => ⟨h.2, al, _, z, c, rfl, h.1, hn, hdec.1, hS.2.of (fun q => ?_) (fun q => ?_)⟩) (fun f1 h1 => ?_)
          · rw [va_up_ne _ _ (show (4 : Nat) ≠ 6 by decide), va_up_self]
            by_cases hq : q = k
            · rw [hq, va_up_self]; exact Or.inr (Or.inl rfl)
            · rw [va_up_ne _ _ hq]; exact Or.inl rfl
          · rw [va_up_self]
            by_cases hq : q = k
            · rw [hq, va_up_self]; exact Or.inr ⟨c, hc9, by rw [hS.1.1.2.2.2.1]⟩
            · rw [va_up_ne _ _ hq]; exact Or.inl rfl
          · rw [hdec.2]
            exact c_X6_decline_0 l G f1 am sc ar h1 (zN z 0) hsc.1 ht (zN z 1) hsc.2.1 hS.1.nt m (by omega) k (by omega) (fun l => c_X6_faultOf_0 l G f1 am sc ar h1 m (by omega) (nI k) hi hi2 h15 hh)
      · exact op_f hR hM hS hW hn 2 (by decide) (hA2 (by unfold awC; rw [decide_eq_false hst]; rfl)) (c_X6_decline_e l G f am sc ar hM (nI m) (nI k) 2 (by decide) (fun l => c_X6_faultOf_2a l G f am sc ar hM m (by omega) (nI k) hi hi2 (fun q => hst (m13.trans q))))
    · rw [← hsc.1] at hi2
      exact op_f hR hM hS hW hn 1 (by decide) (h_decline_1 l G f _ _ _ (hR.2.1 (15, 0) dm15) (nI m) a2 o (c_X5_decline_x2 l hl G f al fi z hR m hm a2 h2)) (c_X6_decline_e l G f am sc ar hM (nI m) a2 1 (by decide) (fun l => c_X6_faultOf_1b l G f am sc ar hM (nI m) a2 hi hi2))
  · rw [← hsc.2.2] at hi
    exact op_f hR hM hS hW hn 1 (by decide) (h_decline_1 l G f _ _ _ (hR.2.1 (15, 0) dm15) a a2 o (c_X5_decline_x1 l hl G f al fi z hR a a2 h1)) (c_X6_decline_e l G f am sc ar hM a a2 1 (by decide) (fun l => c_X6_faultOf_1a l G f am sc ar hM a a2 hi))
theorem o_pass (l : Launch) (hl : l.stackTraces = false) (hR : RC G al fi z f) (hM : RM G am sc ar f) (hS : SB c fi z sc ar) (hW : WD G o f g) (hn : zN z 2 ≤ n) (a : Int32) : OpT (fun mc ms post => Ch l yL_pass wsL_pass 13 248 G [.ref (al (15, 0)), .int a, .ref o] f post mc ms) l yX6_pass wsX6_pass 5 134 G [.ref (am 0), .int a] (JW (am 0)) eI (LI G (al (15, 0)) (am 0) o n) := by
  have hsc := e_s0 hS
  have hc9 := hS.1.1.2.2.2.2.2.2.2.2
  have hA1 : ∀ (h : a < 1 ∨ 1000 < a), _ := fun h => h_pass_1 l G f _ _ _ (hR.2.1 (15, 0) dm15) a o (c_X5_pass_x l hl G f al fi z hR a h)
  by_cases h1 : a < 1
  · exact op_f hR hM hS hW hn 1 (by decide) (hA1 (Or.inl h1)) (c_X6_pass_1 l G f am sc ar hM a (e_inF (Or.inl h1)))
  by_cases h2 : 1000 < a
  · exact op_f hR hM hS hW hn 1 (by decide) (hA1 (Or.inr h2)) (c_X6_pass_1 l G f am sc ar hM a (e_inF (Or.inr h2)))
  have hi := e_inB h1 h2
  have h1 := Int32.not_lt.mp h1
  have h2 := Int32.not_lt.mp h2
  obtain ⟨T, hT, rfl⟩ := nI_of2 (M := 1000) (n := 1000) rfl (fun q => Int32.lt_irrefl (Int32.lt_trans q (Int32.lt_of_lt_of_le (by decide : (0 : Int32) < 1) h1))) h2
  have e1 : nI T ≤ 100000 - fi 18 0 ↔ c + T ≤ 100000 := by
    rw [hS.1.ck, show (100000 : Int32) = nI 100000 from rfl, q_nsub hc9, nI_leI (by omega) (by omega)]
    omega
  have e2 : sc 3 + nI T ≤ 100000 ↔ c + T ≤ 100000 := by
    rw [hS.1.1.2.2.2.1, show (100000 : Int32) = nI 100000 from rfl, nI_add, nI_leI (by omega) (by omega)]
  by_cases h3 : c + T ≤ 100000
  · have hpas := hS.1.pas h3
    refine op_0 (sc' := va_up (va_up sc 7 0) 3 (sc 3 + nI T)) (ar' := (outA (zN z 0) (zN z 1) (zN z 2) (sc 3) ar T).1) hM hW (by decide) (by decide) _ _ rfl (fun f2 => RC G al ((psL (fu fi 18 0 (fi 18 0 + nI T)) z (zN z 2)).2) z f2 ∧ FrC f f2) (h_pass_0 l G f _ _ _ (hR.2.1 (15, 0) dm15) (nI T) o g hW _ _ 0 0 (c_X5_pass_t l G f al fi z hR (nI T) h1 h2 (e1.mpr h3)) (fun f2 h => h.2)) ((va_up_ne _ _ (by decide)).trans (va_up_self sc 7 0)) (fun f2 h => ⟨h.2, al, _, z, c + T, rfl, h.1, hn, hpas.1.s7 (fun j hj => ?_), ?_⟩) (fun f1 h1' => ?_)
    · by_cases hj3 : j = 3
      · rw [hj3, va_up_self, va_up_self, hS.1.1.2.2.2.1, nI_add]
      · rw [va_up_ne _ _ hj3, va_up_ne _ _ hj3, va_up_ne _ _ (by omega)]
    · rw [hS.1.1.2.2.2.1]
      exact hS.2.out T h3
    · rw [hpas.2]
      exact c_X6_pass_0 l G f1 am sc ar h1' (zN z 0) hsc.1 hS.1.np (zN z 1) hsc.2.1 hS.1.nt (zN z 2) hsc.2.2 (by have := hS.1.nm; omega) T hT hi (e2.mpr h3)
  · exact op_f hR hM hS hW hn 2 (by decide) (h_pass_2 l G f _ _ _ (hR.2.1 (15, 0) dm15) (nI T) o (c_X5_pass_s l hl G f al fi z hR (nI T) h1 h2 (fun q => h3 (e1.mp q)))) (c_X6_pass_2 l G f am sc ar hM (nI T) hi (fun q => h3 (e2.mp q)))
def OpV (A : Nat → Nat → (Option Value → Wo → Prop) → Prop) (l : Launch) (y6 : MethodName) (ws6 : List Cond) (fr6 lo6 : Nat) (G : GG) (as6 : List Value) (J : Wo → Prop) (I : Int32 → Int64 → Wo → Prop) : Prop := ∃ (k : Int32) (mc ms : Nat) (Q : Wo → Prop), mc ≤ 4 ∧ ms ≤ 200 ∧ A mc ms (fun r f' => r = some (.int k) ∧ Q f') ∧ ∀ f1, Q f1 → J f1 ∧ ∃ w : Int64, Ct l y6 ws6 fr6 lo6 G as6 f1 (fun r f2 => r = none ∧ I k w f2) 0 0
theorem op_fv {A : Nat → Nat → (Option Value → Wo → Prop) → Prop} {l : Launch} {y6 : MethodName} {ws6 : List Cond} {fr6 lo6 : Nat} {as6 : List Value} (hR : RC G al fi z f) (hM : RM G am sc ar f) (hS : SB c fi z sc ar) (hW : WD G o f g) (hn : zN z 2 ≤ n) (k : Int32) (hA : A 1 6 (fun r f' => r = some (.int k) ∧ f' = f)) (hB : Ct l y6 ws6 fr6 lo6 G as6 f (fun r f2 => r = none ∧ RM G am (va_up sc 7 k) ar f2 ∧ FrM am f f2) 0 0) : OpV A l y6 ws6 fr6 lo6 G as6 (JW (am 0)) (LI G (al (15, 0)) (am 0) o n) :=
  ⟨k, 1, 6, (fun f' => f' = f), by decide, by decide, hA, fun f1 h1 => ⟨by subst h1; exact ⟨_, hM.1⟩, g 0, by
    subst h1
    refine hB.mono fun r f2 q => ⟨q.1, ?_⟩
    have := l_mdl hR hM hW q.2.1 q.2.2 (hS.s7 k) hn
    rwa [va_up_self] at this⟩⟩
theorem o_finish (l : Launch) (hl : l.stackTraces = false) (hR : RC G al fi z f) (hM : RM G am sc ar f) (hS : SB c fi z sc ar) (hW : WD G o f g) (hn : zN z 2 ≤ n) (a a2 : Int32) : OpV (fun mc ms post => Ch l yL_finish wsL_finish 12 231 G [.ref (al (15, 0)), .int a, .int a2] f post mc ms) l yX6_finish wsX6_finish 3 88 G [.ref (am 0), .int a, .int a2] (JW (am 0)) (LI G (al (15, 0)) (am 0) o n) := by
  have hsc := e_s0 hS
  have hm9 := hS.1.nm
  rcases e_inI (n := zN z 2) (by omega) a with ⟨m, hm, rfl, hi⟩ | ⟨h1, hi⟩
  · rw [← hsc.2.2] at hi
    obtain ⟨-, -, -, m13, -⟩ := hS.1.mt hm
    rcases e_in2 a2 with h2 | h2
    · exact op_fv hR hM hS hW hn 2 (h_finish_2 l G f _ _ _ (hR.2.1 (15, 0) dm15) (nI m) a2 (c_X5_finish_a l hl G f al fi z hR m hm a2 (fun q => by
        rcases q with rfl | rfl <;> rcases h2 with h2 | h2 <;> exact absurd h2 (by decide)))) (c_X6_finish_2 l G f am sc ar hM (nI m) a2 hi (e_inF h2))
    · have hw : inI a2 0 1 = true := by rcases h2 with rfl | rfl <;> decide
      by_cases hst : fi 13 m = 1
      · have hfin := hS.1.fin (sc' := va_up sc 7 0) hm hst h2 (fun j hj => va_up_ne _ _ (by omega))
        refine ⟨0, 0, 0, (fun f2 => RC G al (fnF fi z m a2) z f2 ∧ FrC f f2), by decide, by decide, h_finish_0 l G f _ _ _ (hR.2.1 (15, 0) dm15) (nI m) a2 _ 0 0 (c_X5_finish_t l G f al fi z hR m hm a2 h2 hst) (fun f2 h => h.2), fun f1 h1 => ?_⟩
        obtain ⟨r2, r3⟩ := l_cls0 hM hW h1.2
        refine ⟨⟨_, r2.1⟩, g 0, ?_⟩
        refine (c_X6_finish_0 l G f1 am sc ar r2 (zN z 0) hsc.1 hS.1.np (zN z 1) hsc.2.1 hS.1.nt m (by omega) hi a2 hw (m13.symm.trans hst)).mono fun r f2 q => ⟨q.1, ?_⟩
        have := l_mdl h1.1 r2 r3 q.2.1 q.2.2 (c := c) (n := n) ⟨hfin, hS.2.of (fun k => ?_) (fun k => Or.inl rfl)⟩ hn
        · rwa [va_up_self] at this
        · rw [show finA (zN z 0) (zN z 1) m a2 ar 4 = ifF (zN z 0) (fun k => hsI (allI (ar 11) m) (nI k)) (fun k => nlI (ar 4 k)) (ar 4) from rfl]
          unfold ifF
          split
          · exact Or.inr (Or.inr rfl)
          · exact Or.inl rfl
      · exact op_fv hR hM hS hW hn 3 (h_finish_3 l G f _ _ _ (hR.2.1 (15, 0) dm15) (nI m) a2 (c_X5_finish_s l hl G f al fi z hR m hm a2 h2 hst)) (c_X6_finish_3 l G f am sc ar hM m (by omega) hi a2 hw (fun q => hst (m13.trans q)))
  · rw [← hsc.2.2] at hi
    exact op_fv hR hM hS hW hn 1 (h_finish_1 l G f _ _ _ (hR.2.1 (15, 0) dm15) a a2 (c_X5_finish_x l hl G f al fi z hR a a2 h1)) (c_X6_finish_1 l G f am sc ar hM a a2 hi)
end LO
