/-! the model's constructor -/
def mcl (G : GG) (i : Nat) : va_E := if i = 9 then oZ G 100 (fun _ => 0) else oI G (mlen i) (fun _ => 0)
def mrf (m : Nat) (am : Nat → Nat) (i : Nat) : Value := if i ≤ m then .ref (am i) else .null
def miF (m : Nat) (am : Nat → Nat) : List Value := [.int 0, mrf m am 1, mrf m am 2, mrf m am 3, mrf m am 4, mrf m am 5, mrf m am 6, .int 0, mrf m am 7, mrf m am 8, mrf m am 9, mrf m am 10, .int 0, mrf m am 11, mrf m am 12, mrf m am 13, mrf m am 14, mrf m am 15, .int 0, .int 0, mrf m am 16, .int 0, .int 0, .int 0]
def IM (G : GG) (f0 : Wo) (o m : Nat) (am : Nat → Nat) (f : Wo) : Prop := am 0 = o ∧ f o = some ((30, 0), oO 6 (miF m am)) ∧ (∀ i, 1 ≤ i → i ≤ m → f (am i) = some ((30, i), mcl G i) ∧ f0 (am i) = none) ∧ (∀ a, f0 a ≠ none → a ≠ o → f a = f0 a) ∧ (∀ a, f a = none → f0 a = none)
theorem mrf_ne {m : Nat} {am : Nat → Nat} {q i : Nat} (h : i ≠ m + 1) : mrf m am i = mrf (m + 1) (va_up am (m + 1) q) i := by
  unfold mrf
  rw [va_up_ne _ _ h]
  by_cases h2 : i ≤ m
  · rw [if_pos h2, if_pos (by omega)]
  · rw [if_neg h2, if_neg (by omega)]
theorem IM.step {G : GG} {f0 f : Wo} {o m q : Nat} {am : Nat → Nat} (h : IM G f0 o m am f) (hq : f q = none) (e : va_E) (he : e = mcl G (m + 1)) : IM G f0 o (m + 1) (va_up am (m + 1) q) (w_up (w_up f q (30, m + 1) e) o (30, 0) (oO 6 (miF (m + 1) (va_up am (m + 1) q)))) := by
  subst he
  obtain ⟨h0, ho, hA, hF, hN⟩ := h
  have hqo : q ≠ o := fun e => by rw [e, ho] at hq; cases hq
  refine ⟨by rw [va_up_ne _ _ (by omega)]; exact h0, w_up_self _ _ _ _, fun i h1 h2 => ?_, fun a ha hao => ?_, fun a ha => ?_⟩
  · by_cases hi : i = m + 1
    · subst hi
      rw [va_up_self]
      exact ⟨(w_up_ne _ _ _ hqo).trans (w_up_self _ _ _ _), hN q hq⟩
    · rw [va_up_ne _ _ hi]
      obtain ⟨a1, a2⟩ := hA i h1 (by omega)
      exact ⟨(w_up_ne _ _ _ (w_neT ho a1 (fun e => by have := congrArg Prod.snd e; simp at this; omega))).trans ((w_up_ne _ _ _ (w_neN a1 hq)).trans a1), a2⟩
  · have haq : a ≠ q := fun e => ha (by rw [e]; exact hN q hq)
    exact (w_up_ne _ _ _ hao).trans ((w_up_ne _ _ _ haq).trans (hF a ha hao))
  · by_cases hao : a = o
    · rw [hao, w_up_self] at ha; cases ha
    · rw [w_up_ne _ _ _ hao] at ha
      by_cases haq : a = q
      · rw [haq, w_up_self] at ha; cases ha
      · rw [w_up_ne _ _ _ haq] at ha
        exact hN a ha
theorem IM.he {G : GG} {f0 f : Wo} {o m q : Nat} {am : Nat → Nat} {t : Tg} {e : va_E} (h : IM G f0 o m am f) (hq : f q = none) : (w_up f q t e) o = some ((30, 0), oO 6 (miF m am)) := (w_up_ne _ _ _ (fun e => by rw [← e, h.2.1] at hq; cases hq)).trans h.2.1
def mInit (G : GG) (f : Wo) (o : Nat) (v9 : Option Value) (f' : Wo) : Prop := v9 = none ∧ ∃ am : Nat → Nat, am 0 = o ∧ RM G am (fun _ => 0) (fun _ _ => 0) f' ∧ (∀ i, 1 ≤ i → i ≤ 16 → f (am i) = none) ∧ ∀ a, f a ≠ none → a ≠ o → f' a = f a
theorem IM.fin {G : GG} {f0 f : Wo} {o : Nat} {am : Nat → Nat} (h : IM G f0 o 16 am f) : mInit G f0 o none f := by
  obtain ⟨h0, ho, hA, hF, hN⟩ := h
  refine ⟨rfl, am, h0, ⟨by rw [h0]; exact ho, fun i h1 h2 h3 => ?_, ?_⟩, fun i h1 h2 => (hA i h1 h2).2, hF⟩
  · rw [(hA i h1 h2).1, mcl, if_neg h3]
  · exact (hA 9 (by decide) (by decide)).1
theorem hinX6_init_X6 : ∀ w ∈ wsX60, w ∈ wsX6_init := by decide +kernel
set_option maxHeartbeats 4000000 in
set_option maxRecDepth 100000 in
theorem c_X6_init (l : Launch) (G : GG) (f : Wo) (o : Nat) (ho : f o = some ((30, 0), oO 6 (miF 0 (fun _ => o)))) : Ct l yX6_init wsX6_init 2 60 G [.ref o] f (mInit G f o) 16 4126 := by
  refine Ct.of (cc := cX6_init) (maxL := 1) (ret := none) (by decide) rfl (Nat.le_of_ble_eq_true rfl) (lv := [(0, _)]) rfl (by simp [Value.category]) ?_
  intro K X hL hG hr hnm
  subst hL; subst hG
  obtain ⟨f0, hf0⟩ : ∃ z, z = f := ⟨_, rfl⟩
  have hI : IM (kG K) f0 o 0 (fun _ => o) f := ⟨rfl, ho, fun i h1 h2 => absurd h1 (by omega), fun a _ _ => by rw [hf0], fun a h => by rw [hf0]; exact h⟩
  rw [← hf0] at hr
  clear hf0 ho
  generalize (fun _ : Nat => o) = am at hI
  refine V_aload_n X rfl dX6_init_0 ?_
  refine V_obj X (by decide +kernel) (by decide +kernel) (by decide +kernel) (Nat.le_of_ble_eq_true rfl) (Nat.le_of_ble_eq_true rfl) dX6_init_1 ?_
  refine V_aload_n X rfl dX6_init_4 ?_
  refine V_bipush X (v := 18) (by decide) dX6_init_5 ?_
  refine V_newI X (kc' := 15) (ks' := 4108) (N := 18) (30, 1) (by decide +kernel) (by decide) (by decide) (by decide) (by decide) (by decide) dX6_init_7 (fun q hq => ?_)
  refine V_putF X (T := TX6) (N := 24) hnm (fs' := miF 1 (va_up am 1 q)) 1 (hI.he hq) (by decide) rfl hinX6_init_X6 tyX6_ok nmX6 (by decide) (by decide +kernel) (fun _ h9 => h9) rfl rfl rfl rfl rfl (by show 1 < 24; decide) rfl dX6_init_9 ?_
  have hI := hI.step hq _ rfl
  generalize va_up am 1 q = am at hI ⊢
  refine V_aload_n X rfl dX6_init_12 ?_
  refine V_bipush X (v := 18) (by decide) dX6_init_13 ?_
  refine V_newI X (kc' := 14) (ks' := 4090) (N := 18) (30, 2) (by decide +kernel) (by decide) (by decide) (by decide) (by decide) (by decide) dX6_init_15 (fun q hq => ?_)
  refine V_putF X (T := TX6) (N := 24) hnm (fs' := miF 2 (va_up am 2 q)) 2 (hI.he hq) (by decide) rfl hinX6_init_X6 tyX6_ok nmX6 (by decide) (by decide +kernel) (fun _ h9 => h9) rfl rfl rfl rfl rfl (by show 2 < 24; decide) rfl dX6_init_17 ?_
  have hI := hI.step hq _ rfl
  generalize va_up am 2 q = am at hI ⊢
  refine V_aload_n X rfl dX6_init_20 ?_
  refine V_bipush X (v := 18) (by decide) dX6_init_21 ?_
  refine V_newI X (kc' := 13) (ks' := 4072) (N := 18) (30, 3) (by decide +kernel) (by decide) (by decide) (by decide) (by decide) (by decide) dX6_init_23 (fun q hq => ?_)
  refine V_putF X (T := TX6) (N := 24) hnm (fs' := miF 3 (va_up am 3 q)) 3 (hI.he hq) (by decide) rfl hinX6_init_X6 tyX6_ok nmX6 (by decide) (by decide +kernel) (fun _ h9 => h9) rfl rfl rfl rfl rfl (by show 3 < 24; decide) rfl dX6_init_25 ?_
  have hI := hI.step hq _ rfl
  generalize va_up am 3 q = am at hI ⊢
  refine V_aload_n X rfl dX6_init_28 ?_
  refine V_bipush X (v := 18) (by decide) dX6_init_29 ?_
  refine V_newI X (kc' := 12) (ks' := 4054) (N := 18) (30, 4) (by decide +kernel) (by decide) (by decide) (by decide) (by decide) (by decide) dX6_init_31 (fun q hq => ?_)
  refine V_putF X (T := TX6) (N := 24) hnm (fs' := miF 4 (va_up am 4 q)) 4 (hI.he hq) (by decide) rfl hinX6_init_X6 tyX6_ok nmX6 (by decide) (by decide +kernel) (fun _ h9 => h9) rfl rfl rfl rfl rfl (by show 4 < 24; decide) rfl dX6_init_33 ?_
  have hI := hI.step hq _ rfl
  generalize va_up am 4 q = am at hI ⊢
  refine V_aload_n X rfl dX6_init_36 ?_
  refine V_bipush X (v := 18) (by decide) dX6_init_37 ?_
  refine V_newI X (kc' := 11) (ks' := 4036) (N := 18) (30, 5) (by decide +kernel) (by decide) (by decide) (by decide) (by decide) (by decide) dX6_init_39 (fun q hq => ?_)
  refine V_putF X (T := TX6) (N := 24) hnm (fs' := miF 5 (va_up am 5 q)) 5 (hI.he hq) (by decide) rfl hinX6_init_X6 tyX6_ok nmX6 (by decide) (by decide +kernel) (fun _ h9 => h9) rfl rfl rfl rfl rfl (by show 5 < 24; decide) rfl dX6_init_41 ?_
  have hI := hI.step hq _ rfl
  generalize va_up am 5 q = am at hI ⊢
  refine V_aload_n X rfl dX6_init_44 ?_
  refine V_bipush X (v := 18) (by decide) dX6_init_45 ?_
  refine V_newI X (kc' := 10) (ks' := 4018) (N := 18) (30, 6) (by decide +kernel) (by decide) (by decide) (by decide) (by decide) (by decide) dX6_init_47 (fun q hq => ?_)
  refine V_putF X (T := TX6) (N := 24) hnm (fs' := miF 6 (va_up am 6 q)) 6 (hI.he hq) (by decide) rfl hinX6_init_X6 tyX6_ok nmX6 (by decide) (by decide +kernel) (fun _ h9 => h9) rfl rfl rfl rfl rfl (by show 6 < 24; decide) rfl dX6_init_49 ?_
  have hI := hI.step hq _ rfl
  generalize va_up am 6 q = am at hI ⊢
  refine V_aload_n X rfl dX6_init_52 ?_
  refine V_bipush X (v := 100) (by decide) dX6_init_53 ?_
  refine V_newI X (kc' := 9) (ks' := 3918) (N := 100) (30, 7) (by decide +kernel) (by decide) (by decide) (by decide) (by decide) (by decide) dX6_init_55 (fun q hq => ?_)
  refine V_putF X (T := TX6) (N := 24) hnm (fs' := miF 7 (va_up am 7 q)) 8 (hI.he hq) (by decide) rfl hinX6_init_X6 tyX6_ok nmX6 (by decide) (by decide +kernel) (fun _ h9 => h9) rfl rfl rfl rfl rfl (by show 8 < 24; decide) rfl dX6_init_57 ?_
  have hI := hI.step hq _ rfl
  generalize va_up am 7 q = am at hI ⊢
  refine V_aload_n X rfl dX6_init_60 ?_
  refine V_bipush X (v := 100) (by decide) dX6_init_61 ?_
  refine V_newI X (kc' := 8) (ks' := 3818) (N := 100) (30, 8) (by decide +kernel) (by decide) (by decide) (by decide) (by decide) (by decide) dX6_init_63 (fun q hq => ?_)
  refine V_putF X (T := TX6) (N := 24) hnm (fs' := miF 8 (va_up am 8 q)) 9 (hI.he hq) (by decide) rfl hinX6_init_X6 tyX6_ok nmX6 (by decide) (by decide +kernel) (fun _ h9 => h9) rfl rfl rfl rfl rfl (by show 9 < 24; decide) rfl dX6_init_65 ?_
  have hI := hI.step hq _ rfl
  generalize va_up am 8 q = am at hI ⊢
  refine V_aload_n X rfl dX6_init_68 ?_
  refine V_bipush X (v := 100) (by decide) dX6_init_69 ?_
  refine V_newZ X (kc' := 7) (ks' := 3718) (N := 100) (30, 9) (by decide +kernel) (by decide) (by decide) (by decide) (by decide) (by decide) dX6_init_71 (fun q hq => ?_)
  refine V_putF X (T := TX6) (N := 24) hnm (fs' := miF 9 (va_up am 9 q)) 10 (hI.he hq) (by decide) rfl hinX6_init_X6 tyX6_ok nmX6 (by decide) (by decide +kernel) (fun _ h9 => h9) rfl rfl rfl rfl rfl (by show 10 < 24; decide) rfl dX6_init_73 ?_
  have hI := hI.step hq _ rfl
  generalize va_up am 9 q = am at hI ⊢
  refine V_aload_n X rfl dX6_init_76 ?_
  refine V_bipush X (v := 100) (by decide) dX6_init_77 ?_
  refine V_newI X (kc' := 6) (ks' := 3618) (N := 100) (30, 10) (by decide +kernel) (by decide) (by decide) (by decide) (by decide) (by decide) dX6_init_79 (fun q hq => ?_)
  refine V_putF X (T := TX6) (N := 24) hnm (fs' := miF 10 (va_up am 10 q)) 11 (hI.he hq) (by decide) rfl hinX6_init_X6 tyX6_ok nmX6 (by decide) (by decide +kernel) (fun _ h9 => h9) rfl rfl rfl rfl rfl (by show 11 < 24; decide) rfl dX6_init_81 ?_
  have hI := hI.step hq _ rfl
  generalize va_up am 10 q = am at hI ⊢
  refine V_aload_n X rfl dX6_init_84 ?_
  refine V_sipush X (v := 1200) (by decide) dX6_init_85 ?_
  refine V_newI X (kc' := 5) (ks' := 2418) (N := 1200) (30, 11) (by decide +kernel) (by decide) (by decide) (by decide) (by decide) (by decide) dX6_init_88 (fun q hq => ?_)
  refine V_putF X (T := TX6) (N := 24) hnm (fs' := miF 11 (va_up am 11 q)) 13 (hI.he hq) (by decide) rfl hinX6_init_X6 tyX6_ok nmX6 (by decide) (by decide +kernel) (fun _ h9 => h9) rfl rfl rfl rfl rfl (by show 13 < 24; decide) rfl dX6_init_90 ?_
  have hI := hI.step hq _ rfl
  generalize va_up am 11 q = am at hI ⊢
  refine V_aload_n X rfl dX6_init_93 ?_
  refine V_sipush X (v := 600) (by decide) dX6_init_94 ?_
  refine V_newI X (kc' := 4) (ks' := 1818) (N := 600) (30, 12) (by decide +kernel) (by decide) (by decide) (by decide) (by decide) (by decide) dX6_init_97 (fun q hq => ?_)
  refine V_putF X (T := TX6) (N := 24) hnm (fs' := miF 12 (va_up am 12 q)) 14 (hI.he hq) (by decide) rfl hinX6_init_X6 tyX6_ok nmX6 (by decide) (by decide +kernel) (fun _ h9 => h9) rfl rfl rfl rfl rfl (by show 14 < 24; decide) rfl dX6_init_99 ?_
  have hI := hI.step hq _ rfl
  generalize va_up am 12 q = am at hI ⊢
  refine V_aload_n X rfl dX6_init_102 ?_
  refine V_sipush X (v := 600) (by decide) dX6_init_103 ?_
  refine V_newI X (kc' := 3) (ks' := 1218) (N := 600) (30, 13) (by decide +kernel) (by decide) (by decide) (by decide) (by decide) (by decide) dX6_init_106 (fun q hq => ?_)
  refine V_putF X (T := TX6) (N := 24) hnm (fs' := miF 13 (va_up am 13 q)) 15 (hI.he hq) (by decide) rfl hinX6_init_X6 tyX6_ok nmX6 (by decide) (by decide +kernel) (fun _ h9 => h9) rfl rfl rfl rfl rfl (by show 15 < 24; decide) rfl dX6_init_108 ?_
  have hI := hI.step hq _ rfl
  generalize va_up am 13 q = am at hI ⊢
  refine V_aload_n X rfl dX6_init_111 ?_
  refine V_sipush X (v := 600) (by decide) dX6_init_112 ?_
  refine V_newI X (kc' := 2) (ks' := 618) (N := 600) (30, 14) (by decide +kernel) (by decide) (by decide) (by decide) (by decide) (by decide) dX6_init_115 (fun q hq => ?_)
  refine V_putF X (T := TX6) (N := 24) hnm (fs' := miF 14 (va_up am 14 q)) 16 (hI.he hq) (by decide) rfl hinX6_init_X6 tyX6_ok nmX6 (by decide) (by decide +kernel) (fun _ h9 => h9) rfl rfl rfl rfl rfl (by show 16 < 24; decide) rfl dX6_init_117 ?_
  have hI := hI.step hq _ rfl
  generalize va_up am 14 q = am at hI ⊢
  refine V_aload_n X rfl dX6_init_120 ?_
  refine V_sipush X (v := 600) (by decide) dX6_init_121 ?_
  refine V_newI X (kc' := 1) (ks' := 18) (N := 600) (30, 15) (by decide +kernel) (by decide) (by decide) (by decide) (by decide) (by decide) dX6_init_124 (fun q hq => ?_)
  refine V_putF X (T := TX6) (N := 24) hnm (fs' := miF 15 (va_up am 15 q)) 17 (hI.he hq) (by decide) rfl hinX6_init_X6 tyX6_ok nmX6 (by decide) (by decide +kernel) (fun _ h9 => h9) rfl rfl rfl rfl rfl (by show 17 < 24; decide) rfl dX6_init_126 ?_
  have hI := hI.step hq _ rfl
  generalize va_up am 15 q = am at hI ⊢
  refine V_aload_n X rfl dX6_init_129 ?_
  refine V_bipush X (v := 18) (by decide) dX6_init_130 ?_
  refine V_newI X (kc' := 0) (ks' := 0) (N := 18) (30, 16) (by decide +kernel) (by decide) (by decide) (by decide) (by decide) (by decide) dX6_init_132 (fun q hq => ?_)
  refine V_putF X (T := TX6) (N := 24) hnm (fs' := miF 16 (va_up am 16 q)) 20 (hI.he hq) (by decide) rfl hinX6_init_X6 tyX6_ok nmX6 (by decide) (by decide +kernel) (fun _ h9 => h9) rfl rfl rfl rfl rfl (by show 20 < 24; decide) rfl dX6_init_134 ?_
  have hI := hI.step hq _ rfl
  generalize va_up am 16 q = am at hI ⊢
  exact V_vret X hr hI.fin dX6_init_137
