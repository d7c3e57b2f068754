/-! ===== LobbyMaker's constructor ===== -/
def CI (f0 : Wo) (a : Nat) (xs : List (Nat × Tg × va_E)) (vs : List Value) (f : Wo) : Prop := f a = some ((15, 0), oO 5 vs) ∧ (∀ y ∈ xs, f y.1 = some (y.2.1, y.2.2) ∧ f0 y.1 = none) ∧ (∀ b x, f0 b = some x → b ≠ a → f b = some x) ∧ ∀ b, f b = none → f0 b = none
theorem CI.new {f0 f : Wo} {a q : Nat} {xs : List (Nat × Tg × va_E)} {vs : List Value} (h : CI f0 a xs vs f) (hq : f q = none) (t : Tg) (e : va_E) : CI f0 a ((q, t, e) :: xs) vs (w_up f q t e) := by
  obtain ⟨h1, h2, h3, h4⟩ := h
  refine ⟨(w_up_ne _ _ _ (w_neN h1 hq)).trans h1, fun y hy => ?_, fun b x hb hn => (w_up_ne _ _ _ (w_neN (h3 b x hb hn) hq)).trans (h3 b x hb hn), fun b hb => ?_⟩
  · rcases List.mem_cons.mp hy with rfl | hy
    · exact ⟨w_up_self _ _ _ _, h4 _ hq⟩
    · exact ⟨(w_up_ne _ _ _ (w_neN (h2 y hy).1 hq)).trans (h2 y hy).1, (h2 y hy).2⟩
  · by_cases hbq : b = q
    · subst hbq; rw [w_up_self] at hb; cases hb
    · rw [w_up_ne _ _ _ hbq] at hb; exact h4 b hb
theorem CI.put {f0 f : Wo} {a : Nat} {xs : List (Nat × Tg × va_E)} {vs : List Value} (h : CI f0 a xs vs f) (hx : ∀ y ∈ xs, y.1 ≠ a) (vs' : List Value) : CI f0 a xs vs' (w_up f a (15, 0) (oO 5 vs')) := by
  obtain ⟨h1, h2, h3, h4⟩ := h
  refine ⟨w_up_self _ _ _ _, fun y hy => ⟨(w_up_ne _ _ _ (hx y hy)).trans (h2 y hy).1, (h2 y hy).2⟩, fun b x hb hn => (w_up_ne _ _ _ hn).trans (h3 b x hb hn), fun b hb => ?_⟩
  by_cases hba : b = a
  · subst hba; rw [w_up_self] at hb; cases hb
  · rw [w_up_ne _ _ _ hba] at hb; exact h4 b hb
theorem CI.ne {f0 f : Wo} {a : Nat} {xs : List (Nat × Tg × va_E)} {vs : List Value} {x0 : Tg × va_E} (h : CI f0 a xs vs f) (ha : f0 a = some x0) : ∀ y ∈ xs, y.1 ≠ a := fun y hy e => by
  have := (h.2.1 y hy).2
  rw [e, ha] at this
  cases this
/-- the head's content is written anew -/
theorem CI.top {f0 f : Wo} {a q : Nat} {t : Tg} {e : va_E} {xs : List (Nat × Tg × va_E)} {vs : List Value} {x0 : Tg × va_E} (h : CI f0 a ((q, t, e) :: xs) vs f) (ha : f0 a = some x0) (hx : ∀ y ∈ xs, y.1 ≠ q) (e' : va_E) : CI f0 a ((q, t, e') :: xs) vs (w_up f q t e') := by
  have hqa := h.ne ha _ List.mem_cons_self
  obtain ⟨h1, h2, h3, h4⟩ := h
  have hq0 := (h2 _ List.mem_cons_self).2
  refine ⟨(w_up_ne _ _ _ (Ne.symm hqa)).trans h1, fun y hy => ?_, fun b x hb hn => (w_up_ne _ _ _ (w_neN hb hq0)).trans (h3 b x hb hn), fun b hb => ?_⟩
  · rcases List.mem_cons.mp hy with rfl | hy
    · exact ⟨w_up_self _ _ _ _, hq0⟩
    · exact ⟨(w_up_ne _ _ _ (hx y hy)).trans (h2 y (List.mem_cons_of_mem _ hy)).1, (h2 y (List.mem_cons_of_mem _ hy)).2⟩
  · by_cases hbq : b = q
    · subst hbq; exact hq0
    · rw [w_up_ne _ _ _ hbq] at hb; exact h4 b hb
/-- the new object's state -/
def z0C : CZ := (fun _ => [], fun _ => none, fun _ => 0, fun _ => 0)
def f0C : Nat → Nat → Int32 := fun _ _ => 0
def a0C (a d q0 q1 q2 r0 r1 : Nat) : Tg → Nat := fun q => if q = (15, 0) then a else if q = (14, 0) then d else if q = (13, 0) then q0 else if q = (13, 1) then q1 else if q = (13, 2) then q2 else if q = (13, 3) then r0 else r1
abbrev LE (G : GG) : va_E := oO 0 [.int 0, .ref (gE G), .int 0]
theorem AL.nil {G : GG} {f : Wo} {q : Nat} {t : Tg} {g0 : Nat → Option Nat} (h : f q = some (t, LE G)) (hg : f (gE G) = some ((99, 0), oQ G 0 g0)) : AL G f q t 0 [] := ⟨0, gE G, g0, h, hg, by simp, Nat.le_refl _, fun i x h => by simp at h⟩
theorem CI.rc {G : GG} {f0 f : Wo} {a d q0 q1 q2 r0 r1 : Nat} {vs0 : List Value} {g0 : Nat → Option Nat} (ha : f0 a = some ((15, 0), oO 5 vs0)) (hg : f0 (gE G) = some ((99, 0), oQ G 0 g0)) (h : CI f0 a [(d, (14, 0), oO 1 [.ref r0, .ref r1, .int 0, .int 0, .int 0]), (r1, (13, 4), LE G), (r0, (13, 3), LE G), (q2, (13, 2), LE G), (q1, (13, 1), LE G), (q0, (13, 0), LE G)] [.ref q0, .ref q1, .ref q2, .ref d, .int 0] f) : RC G (a0C a d q0 q1 q2 r0 r1) f0C z0C f ∧ FrC f0 f := by
  have hg1 : f (gE G) = some ((99, 0), oQ G 0 g0) := h.2.2.1 _ _ hg (w_neT ha hg (by decide))
  refine ⟨⟨⟨fun q _ j hj => absurd hj (by simp [zL, z0C]), fun k hk => absurd hk (Nat.not_lt_zero _), fun j _ => rfl, fun q _ => Nat.zero_le _, fun j _ => Nat.zero_le _⟩, fun q hq => ?_, fun q hq => ?_, g0, hg1⟩, fun b x hb hx => h.2.2.1 b x hb (fun e => by
    subst e
    rw [ha] at hb
    cases hb
    have h30 : 30 ≤ 15 := hx
    omega)⟩
  · obtain ⟨q1', q2'⟩ := q
    rcases hq with ⟨-, h2⟩ | ⟨h2, h3⟩
    · exact absurd h2 (Nat.not_lt_zero _)
    · have h3' : q2' = 0 := h3
      subst h3'
      rcases h2 with h2 | h2
      · have h2' : q1' = 14 := h2
        subst h2'
        exact (h.2.1 _ List.mem_cons_self).1
      · have h2' : q1' = 15 := h2
        subst h2'
        exact h.1
  · obtain ⟨q1', q2'⟩ := q
    rcases hq with ⟨-, h2⟩ | ⟨-, h2⟩ | ⟨h2, h3⟩
    · exact absurd h2 (Nat.not_lt_zero _)
    · exact absurd h2 (Nat.not_lt_zero _)
    · have h2' : q1' = 13 := h2
      subst h2'
      have h4 : q2' = 0 ∨ q2' = 1 ∨ q2' = 2 ∨ q2' = 3 ∨ q2' = 4 := by have h5 : q2' < 5 := h3; omega
      rcases h4 with rfl | rfl | rfl | rfl | rfl
      · exact AL.nil (q := q0) (h.2.1 (q0, (13, 0), LE G) (by simp)).1 hg1
      · exact AL.nil (q := q1) (h.2.1 (q1, (13, 1), LE G) (by simp)).1 hg1
      · exact AL.nil (q := q2) (h.2.1 (q2, (13, 2), LE G) (by simp)).1 hg1
      · exact AL.nil (q := r0) (h.2.1 (r0, (13, 3), LE G) (by simp)).1 hg1
      · exact AL.nil (q := r1) (h.2.1 (r1, (13, 4), LE G) (by simp)).1 hg1
theorem CI.draft {f0 W : Wo} {a d r0 r1 : Nat} {xs : List (Nat × Tg × va_E)} {vs : List Value} {x0 : Tg × va_E} {t t1 t2 : Tg} {D0 D1 D2 L : va_E} (h : CI f0 a xs vs W) (ha : f0 a = some x0) (hd : W d = none) (h0 : (w_up W d t D0) r0 = none) (h1 : (w_up W d t D0) r1 = none) (hne : r0 ≠ r1) : CI f0 a ((d, t, D2) :: (r1, t2, L) :: (r0, t1, L) :: xs) vs (w_up (w_up (w_up (w_up (w_up W d t D0) r0 t1 L) d t D1) r1 t2 L) d t D2) := by
  have hdr0 : d ≠ r0 := w_neN (w_up_self _ _ _ _) h0
  have hdr1 : d ≠ r1 := w_neN (w_up_self _ _ _ _) h1
  have hxd : ∀ y ∈ xs, y.1 ≠ d := fun y hy => w_neN (h.2.1 y hy).1 hd
  have a1 := (h.new hd t D0).new h0 t1 L
  have a2 : CI f0 a ((d, t, D0) :: (r0, t1, L) :: xs) vs _ := ⟨a1.1, fun y hy => a1.2.1 y (by simp at hy ⊢; rcases hy with h | h | h <;> simp [h]), a1.2.2⟩
  have a3 := a2.top ha (fun y hy => by
    rcases List.mem_cons.mp hy with rfl | hy
    · exact Ne.symm hdr0
    · exact hxd y hy) D1
  have h1' : (w_up (w_up (w_up W d t D0) r0 t1 L) d t D1) r1 = none := (w_up_ne _ _ _ (Ne.symm hdr1)).trans ((w_up_ne _ _ _ (Ne.symm hne)).trans h1)
  have a4 := a3.new h1' t2 L
  have a5 : CI f0 a ((d, t, D1) :: (r1, t2, L) :: (r0, t1, L) :: xs) vs _ := ⟨a4.1, fun y hy => a4.2.1 y (by simp at hy ⊢; rcases hy with h | h | h | h <;> simp [h]), a4.2.2⟩
  exact a5.top ha (fun y hy => by
    rcases List.mem_cons.mp hy with rfl | hy
    · exact Ne.symm hdr1
    · rcases List.mem_cons.mp hy with rfl | hy
      · exact Ne.symm hdr0
      · exact hxd y hy) D2
theorem dlz : ∀ j, j < 5 → defaultValue (tyX0 j) = vp_V [.null, .null, .int 0, .int 0, .int 0] j := fun j hj => by
  have : j = 0 ∨ j = 1 ∨ j = 2 ∨ j = 3 ∨ j = 4 := by omega
  rcases this with rfl | rfl | rfl | rfl | rfl <;> rfl
theorem hds2_X0_init : yX0_init.cls ≠ "java/lang/invoke/MethodHandle" ∧ yX0_init.cls ≠ "java/lang/invoke/VarHandle" ∧ (parseMethodDescriptor yX0_init.desc).map (fun d => d.parameters.length) = some 0 := by decide +kernel
theorem hinX5_init_Jx4a65c : ∀ w ∈ wsJx4a65c0, w ∈ wsX5_init := by decide +kernel
theorem hinX5_init_X0 : ∀ w ∈ wsX00, w ∈ wsX5_init := by decide +kernel
theorem hinX5_init_X5 : ∀ w ∈ wsX50, w ∈ wsX5_init := by decide +kernel
set_option maxHeartbeats 4000000 in
set_option maxRecDepth 100000 in
theorem c_X5_init (l : Launch) (G : GG) (f : Wo) (a : Nat) (g0 : Nat → Option Nat) (ha : f a = some ((15, 0), oO 5 [.null, .null, .null, .null, .int 0])) (hg : f (gE G) = some ((99, 0), oQ G 0 g0)) : Ct l yX5_init wsX5_init 6 140 G [.ref a] f (fun v9 f' => ∃ al : Tg → Nat, v9 = none ∧ al (15, 0) = a ∧ RC G al f0C z0C f' ∧ FrC f f') 6 20 := by
  refine Ct.of (cc := cX5_init) (maxL := 1) (ret := none) (by decide) rfl (Nat.le_of_ble_eq_true rfl) (lv := [(0, _)]) rfl (by simp [Value.category]) ?_
  intro K X hL hG hr hnm
  subst hL; subst hG
  have hI : CI f a [] [.null, .null, .null, .null, .int 0] f := ⟨ha, fun y hy => absurd hy (by simp), fun b x hb _ => hb, fun b hb => hb⟩
  refine V_aload_n X rfl dX5_init_0 ?_
  refine V_obj X (by decide +kernel) (by decide +kernel) (by decide +kernel) (Nat.le_of_ble_eq_true rfl) (Nat.le_of_ble_eq_true rfl) dX5_init_1 ?_
  refine V_aload_n X rfl dX5_init_4 ?_
  refine V_new X (C := RJx4a65c) (T := TJx4a65c) (N := 3) (ci := 0) (index := 7) (kc' := 5) (ks' := 17) (ty := tyJx4a65c) (fs := [.int 0, .null, .int 0]) (13, 0) rfl hinX5_init_Jx4a65c tyJx4a65c_ok (by decide +kernel) (by decide +kernel) (by decide +kernel) alz (by omega) (by omega) dX5_init_5 (fun q0 hq => ?_)
  refine V_dup X rfl dX5_init_8 ?_
  refine V_callI (kc' := 5) (ks' := 17) X (rest := _) (c_Jx4a65c_init_2 _ _ _ q0 (13, 0) (by decide) (w_up_self _ _ _ _)) gX5_init_Jx4a65c_init_da8c8 rfl (by decide +kernel) (by decide +kernel) (by decide +kernel) rfl hds2_Jx4a65c_init_da8c8 (Nat.le_of_ble_eq_true rfl) (Nat.le_of_ble_eq_true rfl) rfl (Nat.le_of_ble_eq_true rfl) (by omega) (by omega) dX5_init_9 (fun r f1 h9 => ?_)
  obtain ⟨rfl, rfl⟩ := h9
  rw [w_up_up]
  have hI := hI.new hq (13, 0) (LE (kG K))
  refine V_putF X (T := TX5) (N := 5) hnm (fs' := [.ref q0, .null, .null, .null, .int 0]) 0 hI.1 (by decide) rfl hinX5_init_X5 tyX5_ok nmX5 (by decide) (by decide +kernel) (fun _ h9 => h9) rfl rfl rfl rfl rfl (by simp) rfl dX5_init_12 ?_
  have hI := hI.put (hI.ne ha) [.ref q0, .null, .null, .null, .int 0]
  clear hq
  refine V_aload_n X rfl dX5_init_15 ?_
  refine V_new X (C := RJx4a65c) (T := TJx4a65c) (N := 3) (ci := 0) (index := 7) (kc' := 4) (ks' := 14) (ty := tyJx4a65c) (fs := [.int 0, .null, .int 0]) (13, 1) rfl hinX5_init_Jx4a65c tyJx4a65c_ok (by decide +kernel) (by decide +kernel) (by decide +kernel) alz (by omega) (by omega) dX5_init_16 (fun q1 hq => ?_)
  refine V_dup X rfl dX5_init_19 ?_
  refine V_callI (kc' := 4) (ks' := 14) X (rest := _) (c_Jx4a65c_init_2 _ _ _ q1 (13, 1) (by decide) (w_up_self _ _ _ _)) gX5_init_Jx4a65c_init_da8c8 rfl (by decide +kernel) (by decide +kernel) (by decide +kernel) rfl hds2_Jx4a65c_init_da8c8 (Nat.le_of_ble_eq_true rfl) (Nat.le_of_ble_eq_true rfl) rfl (Nat.le_of_ble_eq_true rfl) (by omega) (by omega) dX5_init_20 (fun r f1 h9 => ?_)
  obtain ⟨rfl, rfl⟩ := h9
  rw [w_up_up]
  have hI := hI.new hq (13, 1) (LE (kG K))
  refine V_putF X (T := TX5) (N := 5) hnm (fs' := [.ref q0, .ref q1, .null, .null, .int 0]) 1 hI.1 (by decide) rfl hinX5_init_X5 tyX5_ok nmX5 (by decide) (by decide +kernel) (fun _ h9 => h9) rfl rfl rfl rfl rfl (by simp) rfl dX5_init_23 ?_
  have hI := hI.put (hI.ne ha) [.ref q0, .ref q1, .null, .null, .int 0]
  clear hq
  refine V_aload_n X rfl dX5_init_26 ?_
  refine V_new X (C := RJx4a65c) (T := TJx4a65c) (N := 3) (ci := 0) (index := 7) (kc' := 3) (ks' := 11) (ty := tyJx4a65c) (fs := [.int 0, .null, .int 0]) (13, 2) rfl hinX5_init_Jx4a65c tyJx4a65c_ok (by decide +kernel) (by decide +kernel) (by decide +kernel) alz (by omega) (by omega) dX5_init_27 (fun q2 hq => ?_)
  refine V_dup X rfl dX5_init_30 ?_
  refine V_callI (kc' := 3) (ks' := 11) X (rest := _) (c_Jx4a65c_init_2 _ _ _ q2 (13, 2) (by decide) (w_up_self _ _ _ _)) gX5_init_Jx4a65c_init_da8c8 rfl (by decide +kernel) (by decide +kernel) (by decide +kernel) rfl hds2_Jx4a65c_init_da8c8 (Nat.le_of_ble_eq_true rfl) (Nat.le_of_ble_eq_true rfl) rfl (Nat.le_of_ble_eq_true rfl) (by omega) (by omega) dX5_init_31 (fun r f1 h9 => ?_)
  obtain ⟨rfl, rfl⟩ := h9
  rw [w_up_up]
  have hI := hI.new hq (13, 2) (LE (kG K))
  refine V_putF X (T := TX5) (N := 5) hnm (fs' := [.ref q0, .ref q1, .ref q2, .null, .int 0]) 2 hI.1 (by decide) rfl hinX5_init_X5 tyX5_ok nmX5 (by decide) (by decide +kernel) (fun _ h9 => h9) rfl rfl rfl rfl rfl (by simp) rfl dX5_init_34 ?_
  have hI := hI.put (hI.ne ha) [.ref q0, .ref q1, .ref q2, .null, .int 0]
  clear hq
  refine V_aload_n X rfl dX5_init_37 ?_
  refine V_new X (C := RX0) (T := TX0) (N := 5) (ci := 1) (index := 22) (kc' := 2) (ks' := 6) (ty := tyX0) (fs := [.null, .null, .int 0, .int 0, .int 0]) (14, 0) rfl hinX5_init_X0 tyX0_ok (by decide +kernel) (by decide +kernel) (by decide +kernel) dlz (by omega) (by omega) dX5_init_38 (fun d hd => ?_)
  refine V_dup X rfl dX5_init_41 ?_
  refine V_callI (kc' := 0) (ks' := 0) X (rest := _) (c_X0_init _ _ _ d (14, 0) (13, 3) (13, 4) (by decide) (by decide) (by decide) (w_up_self _ _ _ _)) gX5_init_X0_init rfl (by decide +kernel) (by decide +kernel) (by decide +kernel) rfl hds2_X0_init (Nat.le_of_ble_eq_true rfl) (Nat.le_of_ble_eq_true rfl) rfl (Nat.le_of_ble_eq_true rfl) (by omega) (by omega) dX5_init_42 (fun r f1 h9 => ?_)
  obtain ⟨r0, r1, rfl, h0, h1, hne, rfl⟩ := h9
  have hI := CI.draft (t1 := (13, 3)) (t2 := (13, 4)) (D1 := oO 1 [.ref r0, .null, .int 0, .int 0, .int 0]) (D2 := oO 1 [.ref r0, .ref r1, .int 0, .int 0, .int 0]) (L := LE (kG K)) hI ha hd h0 h1 hne
  refine V_putF X (T := TX5) (N := 5) hnm (fs' := [.ref q0, .ref q1, .ref q2, .ref d, .int 0]) 3 hI.1 (by decide) rfl hinX5_init_X5 tyX5_ok nmX5 (by decide) (by decide +kernel) (fun _ h9 => h9) rfl rfl rfl rfl rfl (by simp) rfl dX5_init_45 ?_
  have hI := hI.put (hI.ne ha) [.ref q0, .ref q1, .ref q2, .ref d, .int 0]
  refine V_aload_n X rfl dX5_init_48 ?_
  refine V_iconst X (v := 0) (by decide) dX5_init_49 ?_
  refine V_put X (T := TX5) (N := 5) (fs' := [.ref q0, .ref q1, .ref q2, .ref d, .int 0]) 4 hI.1 (by decide) rfl hinX5_init_X5 tyX5_ok nmX5 (by decide) (by decide +kernel) (fun _ h9 => h9) rfl rfl rfl rfl (by simp) rfl dX5_init_50 ?_
  have hI := hI.put (hI.ne ha) [.ref q0, .ref q1, .ref q2, .ref d, .int 0]
  exact V_vret X hr ⟨_, rfl, rfl, (hI.rc ha hg).1, (hI.rc ha hg).2⟩ dX5_init_53
