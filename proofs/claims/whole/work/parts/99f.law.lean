/-! ===== the operations without a fault ===== -/
section LD
variable {G : GG} {al : Tg → Nat} {am : Nat → Nat} {fi : Nat → Nat → Int32} {z : CZ} {sc : Nat → Int32} {ar : Nat → Nat → Int32} {c : Nat} {g : Nat → Int64} {f : Wo} {o n : Nat}
def OpD (A : Nat → Nat → (Option Value → Wo → Prop) → Prop) (l : Launch) (y6 : MethodName) (ws6 : List Cond) (fr6 lo6 : Nat) (G : GG) (as6 : List Value) (J : Wo → Prop) (I : Int32 → Int64 → Wo → Prop) : Prop := ∃ (v : Int32) (mc ms : Nat) (Q : Wo → Prop), mc ≤ 347 ∧ ms ≤ 9160 ∧ A mc ms (fun r f' => r = some (.int v) ∧ Q f') ∧ ∀ f1, Q f1 → J f1 ∧ ∃ (k : Int32) (w : Int64), Ct l y6 ws6 fr6 lo6 G as6 f1 (fun r f2 => r = some (.int v) ∧ I k w f2) 0 0
theorem op_d {A : Nat → Nat → (Option Value → Wo → Prop) → Prop} {l : Launch} {y6 : MethodName} {ws6 : List Cond} {fr6 lo6 : Nat} {as6 : List Value} (hR : RC G al fi z f) (hM : RM G am sc ar f) (hS : SB c fi z sc ar) (hW : WD G o f g) (hn : zN z 2 ≤ n) (v : Int32) (hA : A 0 0 (fun r f' => r = some (.int v) ∧ f' = f)) (hB : Ct l y6 ws6 fr6 lo6 G as6 f (fun r f2 => r = some (.int v) ∧ RM G am (va_up sc 7 0) ar f2 ∧ FrM am f f2) 0 0) : OpD A l y6 ws6 fr6 lo6 G as6 (JW (am 0)) (LI G (al (15, 0)) (am 0) o (n + 1)) :=
  ⟨v, 0, 0, (fun f' => f' = f), by decide, by decide, hA, fun f1 h1 => ⟨by subst h1; exact ⟨_, hM.1⟩, 0, g 0, by
    subst h1
    refine hB.mono fun r f2 q => ⟨q.1, ?_⟩
    have := l_mdl hR hM hW q.2.1 q.2.2 (hS.s7 0) (n := n + 1) (by omega)
    rwa [va_up_self] at this⟩⟩
theorem o_players (l : Launch) (hR : RC G al fi z f) (hM : RM G am sc ar f) (hS : SB c fi z sc ar) (hW : WD G o f g) (hn : zN z 2 ≤ n) : OpD (fun mc ms post => Ct l yX5_players wsX5_players 2 64 G [.ref (al (15, 0))] f post mc ms) l yX6_players wsX6_players 1 44 G [.ref (am 0)] (JW (am 0)) (LI G (al (15, 0)) (am 0) o (n + 1)) :=
  op_d hR hM hS hW hn _ (c_X5_players l G f al fi z hR) (by rw [← (e_s0 hS).1]; exact c_X6_players l G f am sc ar hM)
theorem o_matches (l : Launch) (hR : RC G al fi z f) (hM : RM G am sc ar f) (hS : SB c fi z sc ar) (hW : WD G o f g) (hn : zN z 2 ≤ n) : OpD (fun mc ms post => Ct l yX5_matches wsX5_matches 2 64 G [.ref (al (15, 0))] f post mc ms) l yX6_matches wsX6_matches 1 44 G [.ref (am 0)] (JW (am 0)) (LI G (al (15, 0)) (am 0) o (n + 1)) :=
  op_d hR hM hS hW hn _ (c_X5_matches l G f al fi z hR) (by rw [← (e_s0 hS).2.2]; exact c_X6_matches l G f am sc ar hM)
theorem o_clock (l : Launch) (hR : RC G al fi z f) (hM : RM G am sc ar f) (hS : SB c fi z sc ar) (hW : WD G o f g) (hn : zN z 2 ≤ n) : OpD (fun mc ms post => Ct l yX5_clock wsX5_clock 1 44 G [.ref (al (15, 0))] f post mc ms) l yX6_clock wsX6_clock 1 44 G [.ref (am 0)] (JW (am 0)) (LI G (al (15, 0)) (am 0) o (n + 1)) :=
  op_d hR hM hS hW hn _ (c_X5_clock l G f al fi z hR) (by rw [hS.1.ck, ← hS.1.1.2.2.2.1]; exact c_X6_clock l G f am sc ar hM)
theorem o_queued (l : Launch) (hR : RC G al fi z f) (hM : RM G am sc ar f) (hS : SB c fi z sc ar) (hW : WD G o f g) (hn : zN z 2 ≤ n) : OpD (fun mc ms post => Ct l yX5_queued wsX5_queued 9 160 G [.ref (al (15, 0))] f post mc ms) l yX6_queued wsX6_queued 1 44 G [.ref (am 0)] (JW (am 0)) (LI G (al (15, 0)) (am 0) o (n + 1)) := by
  refine op_d hR hM hS hW hn _ (c_X5_queued l G f al fi z hR) ?_
  have e : sumI (qcT fi) (zN z 1) = cntI (zN z 1) (ar 9) := e_sumI_cg _ fun k hk => by
    have h9 : ar 9 k = bI (decide (fi 7 k = 1)) := (hS.1.pt hk).2.2.2.2.2.2.1
    show qcT fi k = if ar 9 k = 0 then 0 else 1
    unfold qcT
    rw [h9]
    by_cases hq : fi 7 k = 1
    · rw [if_pos hq, decide_eq_true hq, if_neg (by decide)]
    · rw [if_neg hq, decide_eq_false hq, if_pos (by decide)]
  rw [e]
  exact c_X6_queued l G f am sc ar hM (zN z 1) (e_s0 hS).2.1 hS.1.nt
theorem o_make (l : Launch) (hR : RC G al fi z f) (hM : RM G am sc ar f) (hS : SB c fi z sc ar) (hW : WD G o f g) (hn : zN z 2 ≤ n) (hlt : n < 512) : OpD (fun mc ms post => Ct l yX5_make wsX5_make 28 647 G [.ref (al (15, 0))] f post mc ms) l yX6_make wsX6_make 5 148 G [.ref (am 0)] (JW (am 0)) (LI G (al (15, 0)) (am 0) o (n + 1)) := by
  obtain ⟨Q, hQ⟩ : ∃ Q, Q = qsL (ar 9) (zN z 1) := ⟨_, rfl⟩
  have hQQ : Q = q_Q fi (zN z 1) := hQ.trans hS.1.qs
  obtain ⟨A, hA⟩ : ∃ A, A = va_up ar 16 (lnF Q (ar 16)) := ⟨_, rfl⟩
  have hAo : ∀ j, j ≠ 16 → A j = ar j := fun j hj => by rw [hA, va_up_ne _ _ hj]
  have hSA : SM c fi z sc A := hS.1.cg DQ.rf ⟨rfl, rfl, fun _ _ _ => ⟨rfl, rfl⟩⟩ hS.1.2.2.2.2.2.2.2.2.2 (fun _ _ => rfl) hAo
  have hBA : BR A := hS.2.same (hAo 4 (by decide)) (hAo 6 (by decide))
  have hz : ∀ t, t < zN z 1 → ¬ szI (ar 7 t) = 0 := fun t ht9 e => by
    have hp := hS.1.pt ht9
    rw [← hp.1, q_szI, ← hp.2.2.1] at e
    exact absurd e (nI_ne0 hp.2.2.2.2.1.1 (by have := hp.2.2.2.2.1.2; omega))
  have hC := c_X5_make l G f al fi z hR hS.1.dh hS.1.2.2.2.2.2.2.2.2.2 hS.1.2.2.2.2.2.2.2.2.1 hS.1.nm (by rw [← q_Q_len]; exact hS.1.Q18)
  have hm6 : ∀ f1, RM G am sc ar f1 → Ct l yX6_make wsX6_make 5 148 G [.ref (am 0)] f1 (mkPost G am sc (zN z 0) (zN z 2) Q.length (lnQ Q) A f1) 0 0 := fun f1 h1 => by
    rw [hA, hQ]
    exact c_X6_make l G f1 am sc ar h1 (zN z 0) (e_s0 hS).1 hS.1.np (zN z 1) (e_s0 hS).2.1 hS.1.nt (zN z 2) (e_s0 hS).2.2 (by omega) (by rw [← hQ, hQQ]; exact hS.1.Q18) (fun t ht k h1 h2 => by rw [← (hS.1.pt ht).1]; exact q_bw_h (hS.1.bw ht) h1 (by omega)) hz
  have hyes : ∀ {k x : Nat} {S : Int32 × Int32}, _ → _ → _ → _ → _ → _ → _ → _ := fun {k x S} => hSA.mk_yes (show zN z 2 < 512 by omega) hQQ (k := k) (x := x) (S := S)
  cases hG : (mkG z (zN z 1) fi 0).1 with
  | false =>
    refine ⟨-1, 347, 9160, (fun f1 => ∃ z', zE z z' ∧ cpO z' ∧ RC G al (mkG z (zN z 1) fi 0).2.1 z' f1 ∧ FrC f f1), Nat.le_refl _, Nat.le_refl _, hC.mono fun r f1 q => ?_, fun f1 h1 => ?_⟩
    · rcases q with ⟨-, q2, q3⟩ | ⟨q1, -⟩
      · exact ⟨q2, q3⟩
      · rw [hG] at q1; cases q1
    · obtain ⟨z', e1, e2, e3, e4⟩ := h1
      obtain ⟨r2, r3⟩ := l_cls0 hM hW e4
      refine ⟨⟨_, r2.1⟩, 0, g 0, ?_⟩
      refine (hm6 f1 r2).mono fun r f2 q => ?_
      rcases q with ⟨q1, -, ⟨a, b', q3⟩, q4⟩ | ⟨k, x, S, p1, p2, p3, p4, p5, p6, p7, -⟩
      · refine ⟨q1, ?_⟩
        have := l_mdl e3 r2 r3 q3 q4 (c := c) (n := n + 1) ⟨hSA.cg (mkG_DQ z _ fi 0) e1 e2 (fun j hj => by rw [va_up_ne _ _ (by omega), va_up_ne _ _ (by omega), va_up_ne _ _ (by omega), va_up_ne _ _ (by omega)]) (fun _ _ => rfl), hBA⟩ (by rw [e1.1]; omega)
        rwa [va_up_ne _ _ (by decide), va_up_ne _ _ (by decide), va_up_ne _ _ (by decide), va_up_self] at this
      · have := (hyes p1 p2 p3 p4 p5 p6 p7).1
        rw [hG] at this
        cases this
  | true =>
    refine ⟨nI (zN z 2), 347, 9160, (fun f1 => ∃ (al' : Tg → Nat) (z' : CZ) (cap cm : Nat), al' (15, 0) = al (15, 0) ∧ zE z z' ∧ cpO z' ∧ cap ≤ 800 ∧ RC G al' (nmF (mkG z (zN z 1) fi 0).2.1 (zN z 2) ((mkG z (zN z 1) fi 0).2.1 18 0) (mkG z (zN z 1) fi 0).2.2) (zM z' (mkG z (zN z 1) fi 0).2.2 cap cm) f1 ∧ FrC f f1), Nat.le_refl _, Nat.le_refl _, hC.mono fun r f1 q => ?_, fun f1 h1 => ?_⟩
    · rcases q with ⟨q1, -⟩ | ⟨-, q2, q3⟩
      · rw [hG] at q1; cases q1
      · exact ⟨q2, q3⟩
    · obtain ⟨al', z', cap, cm, e0, e1, e2, e3, e4, e5⟩ := h1
      obtain ⟨r2, r3⟩ := l_cls0 hM hW e5
      refine ⟨⟨_, r2.1⟩, 0, g 0, ?_⟩
      refine (hm6 f1 r2).mono fun r f2 q => ?_
      rcases q with ⟨-, q2, -⟩ | ⟨k, x, S, p1, p2, p3, p4, p5, p6, p7, p8, p9, p10⟩
      · have := hSA.mk_no hQQ q2
        rw [hG] at this
        cases this
      · refine ⟨p8, ?_⟩
        have hSM := (hyes p1 p2 p3 p4 p5 p6 p7).2 z' cap cm (va_up (va_up (va_up (va_up (va_up sc 7 0) 4 (nI Q.length)) 5 S.1) 6 S.2) 2 (nI (zN z 2) + 1)) e1 e2 e3 (fun j hj h2 => by rw [va_up_ne _ _ h2, va_up_ne _ _ (by omega), va_up_ne _ _ (by omega), va_up_ne _ _ (by omega), va_up_ne _ _ (by omega)]) (by rw [va_up_self, nI_1])
        have := l_mdl e4 r2 r3 p9 p10 (c := c) (n := n + 1) ⟨hSM, hBA.same ((mkA_o (by decide) (by decide) (by decide) _).trans rfl) ((mkA_o (by decide) (by decide) (by decide) _).trans rfl)⟩ (by
          show va_up (zN z') 2 (zN z' 2 + 1) 2 ≤ n + 1
          rw [va_up_self, e1.1]
          omega)
        rw [e0] at this
        rwa [va_up_ne _ _ (by decide), va_up_ne _ _ (by decide), va_up_ne _ _ (by decide), va_up_ne _ _ (by decide), va_up_self] at this
end LD
