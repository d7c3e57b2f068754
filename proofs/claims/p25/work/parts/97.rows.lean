/-! ===== rows that the law wants beside the class's: longs, the script, catches, the law's arrays ===== -/
section VQ
variable {K : VK} {cc : ByteArray} {own : String} {Ts : List Cond} {nL fr lo : Nat} {f f0 : Wo} {kc ks pc : Nat} {lv lv' : List (Nat × Value)} {st : List Value}
theorem V_ldc2 (X : CX K cc own Ts nL fr lo) {i : Nat} {v : Int64} (hc : Jvm.Cond.constantLong own i v ∈ Ts) (hdg : decode cc pc = .ok (.ldc2_w i, 3)) (k : V K f kc ks (pc + 3) lv (.long v :: st)) : V K f kc ks pc lv st := fun H locs ls cells slots a1 a2 a3 a4 a5 => lv_ldc2 X.1 X.2.1 X.2.2.2.1 (X.2.2.2.2.1 _ hc) hdg (k H locs ls cells slots a1 a2 a3 a4 a5)
theorem V_land (X : CX K cc own Ts nL fr lo) {x y : Int64} (hdg : decode cc pc = .ok (.land, 1)) (k : V K f kc ks (pc + 1) lv (.long (x &&& y) :: st)) : V K f kc ks pc lv (.long y :: .long x :: st) := fun H locs ls cells slots a1 a2 a3 a4 a5 => lv_land X.1 X.2.1 hdg (k H locs ls cells slots a1 a2 a3 a4 a5)
theorem V_lor (X : CX K cc own Ts nL fr lo) {x y : Int64} (hdg : decode cc pc = .ok (.lor, 1)) (k : V K f kc ks (pc + 1) lv (.long (x ||| y) :: st)) : V K f kc ks pc lv (.long y :: .long x :: st) := fun H locs ls cells slots a1 a2 a3 a4 a5 => lv_lor X.1 X.2.1 hdg (k H locs ls cells slots a1 a2 a3 a4 a5)
theorem V_ladd (X : CX K cc own Ts nL fr lo) {x y : Int64} (hdg : decode cc pc = .ok (.ladd, 1)) (k : V K f kc ks (pc + 1) lv (.long (x + y) :: st)) : V K f kc ks pc lv (.long y :: .long x :: st) := fun H locs ls cells slots a1 a2 a3 a4 a5 => lv_ladd X.1 X.2.1 hdg (k H locs ls cells slots a1 a2 a3 a4 a5)
theorem V_lshr (X : CX K cc own Ts nL fr lo) {x : Int64} {y : Int32} (hdg : decode cc pc = .ok (.lshr, 1)) (k : V K f kc ks (pc + 1) lv (.long (x >>> (y.toInt64 &&& 63)) :: st)) : V K f kc ks pc lv (.int y :: .long x :: st) := fun H locs ls cells slots a1 a2 a3 a4 a5 => lv_lshr X.1 X.2.1 hdg rfl (k H locs ls cells slots a1 a2 a3 a4 a5)
theorem V_lshl (X : CX K cc own Ts nL fr lo) {x : Int64} {y : Int32} (hdg : decode cc pc = .ok (.lshl, 1)) (k : V K f kc ks (pc + 1) lv (.long (x <<< (y.toInt64 &&& 63)) :: st)) : V K f kc ks pc lv (.int y :: .long x :: st) := fun H locs ls cells slots a1 a2 a3 a4 a5 => lv_lshl X.1 X.2.1 hdg rfl (k H locs ls cells slots a1 a2 a3 a4 a5)
theorem V_l2i (X : CX K cc own Ts nL fr lo) {x : Int64} (hdg : decode cc pc = .ok (.l2i, 1)) (k : V K f kc ks (pc + 1) lv (.int x.toInt32 :: st)) : V K f kc ks pc lv (.long x :: st) := fun H locs ls cells slots a1 a2 a3 a4 a5 => lv_l2i X.1 X.2.1 hdg rfl (k H locs ls cells slots a1 a2 a3 a4 a5)
theorem V.topl {x y : Int64} (h : x = y) (k : V K f kc ks pc lv (.long y :: st)) : V K f kc ks pc lv (.long x :: st) := h ▸ k
/-- a diamond: what comes behind it is shown once -/
theorem V.join {P : Int32 → Prop} (pc2 : Nat) (hj : ∀ w, P w → V K f kc ks pc2 lv (.int w :: st)) (h : (∀ w, P w → V K f kc ks pc2 lv (.int w :: st)) → V K f kc ks pc lv st) : V K f kc ks pc lv st := h hj
theorem V.joinl {P : Int64 → Prop} (pc2 : Nat) (hj : ∀ w, P w → V K f kc ks pc2 lv (.long w :: st)) (h : (∀ w, P w → V K f kc ks pc2 lv (.long w :: st)) → V K f kc ks pc lv st) : V K f kc ks pc lv st := h hj
theorem V_sld (X : CX K cc own Ts nL fr lo) {i : Int32} (hin : vp_in i (gL (kG K))) (hdg : decode cc pc = .ok (.iaload, 1)) (k : V K f kc ks (pc + 1) lv (.int (gX (kG K) i.toNatClampNeg) :: st)) : V K f kc ks pc lv (.int i :: .ref (gB (kG K)) :: st) := fun H locs ls cells slots a1 a2 a3 a4 a5 => va_sld X.1 X.2.1 X.kK.2.2.2.2 (Nat.lt_of_lt_of_le X.kK.2.2.1 X.kk.1) (Nat.not_le.mpr X.kK.2.2.1) a2 hin hdg (k H locs ls cells slots a1 a2 a3 a4 a5)
theorem V_slen (X : CX K cc own Ts nL fr lo) (hdg : decode cc pc = .ok (.arraylength, 1)) (k : V K f kc ks (pc + 1) lv (.int (nI (gL (kG K))) :: st)) : V K f kc ks pc lv (.ref (gB (kG K)) :: st) := fun H locs ls cells slots a1 a2 a3 a4 a5 => va_slen X.1 X.2.1 X.kK.2.2.2.2 (Nat.lt_of_lt_of_le X.kK.2.2.1 X.kk.1) (Nat.not_le.mpr X.kK.2.2.1) a2 hdg (k H locs ls cells slots a1 a2 a3 a4 a5)
theorem V_tld (X : CX K cc own Ts nL fr lo) {a n : Nat} {t : Tg} {g : Nat → Int32} (he : f a = some (t, oI (kG K) n g)) (k : Nat) (hk : k < n) (hn : n < 2147483648) {w : Int32} (hw : g k = w) (hdg : decode cc pc = .ok (.iaload, 1)) (kk : V K f kc ks (pc + 1) lv (.int w :: st)) : V K f kc ks pc lv (.int (nI k) :: .ref a :: st) :=
  V_iald X he (vp_in_nI hk hn) hdg (by rw [nI_clamp (by omega), hw]; exact kk)
theorem V_tst (X : CX K cc own Ts nL fr lo) {a n : Nat} {t : Tg} {g : Nat → Int32} (he : f a = some (t, oI (kG K) n g)) (ht : t.1 ≠ 99) (k : Nat) (hk : k < n) (hn : n < 2147483648) {x : Int32} (hdg : decode cc pc = .ok (.iastore, 1)) (kk : ∀ f', f' = w_up f a t (oI (kG K) n (va_up g k x)) → V K f' kc ks (pc + 1) lv st) : V K f kc ks pc lv (.int x :: .int (nI k) :: .ref a :: st) :=
  V_iast X he ht (vp_in_nI hk hn) hdg (by rw [nI_clamp (by omega)]; exact kk _ rfl)
end VQ
/-! ===== a method with a table: its start, its call, its handlers ===== -/
theorem Ch.of {l : Launch} {y : MethodName} {ws ws' : List Cond} {cc : ByteArray} {maxL fr lo mc ms : Nat} {ret : Option FieldType} {hh : List (Nat × Nat × Nat × Nat)} {G : GG} {as : List Value} {f : Wo} {post : Option Value → Wo → Prop} {lv : List (Nat × Value)} (hy : plainName y.cls = true) (hw : ws = Cond.codeWith y cc maxL ret hh :: ws') (hlen : (lg_sl as).length ≤ maxL) (hlv : lv_args 0 as = lv) (hcat : ∀ q ∈ lv, q.2.category = 1) (body : ∀ K : VK, CX K cc y.cls ws maxL fr lo → kL K = l → kG K = G → RQ K ret post → (kC K).exceptionTable.toList = tableOf hh → V K f mc ms 0 lv []) : Ct l y ws fr lo G as f post mc ms := by
  show Met l y ws (rmk fr lo mc ms) (CP G as f) (CQ G post) mc ms (gA G)
  refine MetFree.of_bodyS (code := cc) (maxLocals := maxL) (ret := ret) hy ?_ ?_
  · intro args s m h hn
    obtain ⟨m9, meth, c, hn9, h1, h2, h3, h4, -, h5, h6, -⟩ := Cond.codeWith_spec (atoms_spec (ws := ws) h _ (by rw [hw]; exact List.mem_cons_self))
    cases hn.symm.trans hn9
    exact ⟨meth, c, h1, h2, h3, h4, h5, h6⟩
  · intro p e s m args below meth c s₁ B hml hP _
    obtain ⟨rfl, hKK, hf⟩ := hP
    have hh0 : s₁.heap = s.heap := by rw [B.state]; rfl
    have htab : c.exceptionTable.toList = tableOf hh := vx_table (x := y) B (atoms_spec (ws := ws) B.pre _ (by rw [hw]; exact List.mem_cons_self))
    have hX : CX ((p, l, e, (headSpec ws (rmk fr lo mc ms)).room, s), (m, as.toArray, below, meth, c), (G, maxL, mc, ms, MQ below (CQ G post) as.toArray s mc ms (gA G))) cc y.cls ws maxL fr lo := ⟨B.exec, B.bytes, hml, findClass_of_methodNamed B.named, atoms_spec (ws := ws) B.pre, hKK, B.notSynchronized, rfl, rfl⟩
    have hl := lv_entry as (n := maxL) hlen
    have key : W p l e (headSpec ws (rmk fr lo mc ms)).room s m as.toArray below meth c s.heap [] 0 0 (MQ below (CQ G post) as.toArray s mc ms (gA G)) (entryFrame m as.toArray maxL) := by
      rw [lg_entry_eq]
      subst hlv
      exact body _ hX rfl rfl ⟨B.returns, fun _ _ _ _ _ h => h⟩ htab s.heap [] _ 0 0 hf va_S.rf ⟨hl, hcat⟩ (by show 0 + mc ≤ mc; omega) (by show 0 + ms ≤ ms; omega)
    obtain ⟨t, a1, o, b1, b2, b3⟩ := key s₁ hh0 (Stand.of_body B)
    exact ⟨t, o, a1, b1, b2, ⟨b3.1, b3.2⟩⟩
section VL
variable {K : VK} {cc : ByteArray} {own : String} {Ts : List Cond} {nL fr lo : Nat} {f : Wo} {kc ks pc : Nat} {lv lv' : List (Nat × Value)} {st : List Value}
theorem V_callSH (X : CX K cc own Ts nL fr lo) {y : MethodName} {ws ws' : List Cond} {fr' lo' mc' ms' kc' ks' index maxL : Nat} {bytes : ByteArray} {ret' : Option FieldType} {hh : List (Nat × Nat × Nat × Nat)} {as rest : List Value} {post' : Option Value → Wo → Prop} (hM : Ct (kL K) y ws fr' lo' (kG K) as f post' mc' ms') (hT : GoodIn Ts (va_wsS own index y ws)) (hw : ws = Cond.codeWith y bytes maxL ret' hh :: ws') (hd : y.cls ≠ "java/lang/invoke/MethodHandle" ∧ y.cls ≠ "java/lang/invoke/VarHandle" ∧ (parseMethodDescriptor y.desc).map (fun d => d.parameters.length) = some as.length) (hfr : fr' + 1 ≤ fr) (hlo : 8 + (maxL + 11) + lo' ≤ lo) (hst : st = as.reverse ++ rest) (hcat : (rest.map fun v => v.category).sum ≤ 8) (hkc : kc' + mc' ≤ kc) (hks : ks' + ms' ≤ ks) (hdg : decode cc pc = .ok (.invokestatic index, 3)) (kk : ∀ (r : Option Value) (f' : Wo), post' r f' → V K f' kc' ks' (pc + 3) lv (stk r rest)) : V K f kc ks pc lv st :=
  V_run (px := as) X hkc hks (fun H locs ls cells slots a1 a2 a3 a4 a5 => vx_runSW (As := as) (rest := rest) X.fix hM (vx_cwSW as.length X.hts hT hw rfl rfl hd (by rw [X.rm]; exact ⟨hfr, hlo⟩)) (CP.pre X a1 a2) rfl rfl a3.1.1 hst (lv_room hcat) hdg (by rw [X.rm]; exact ⟨a4, a5⟩)) kk
/-- the handler x takes what is thrown -/
theorem V_catch (X : CX K cc own Ts nL fr lo) {E name : String} (pre : List ExceptionTableEntry) (x : ExceptionTableEntry) (suf : List ExceptionTableEntry) (hsplit : (kC K).exceptionTable.toList = pre ++ x :: suf) (hpass : ∀ z ∈ pre, z.catchType ≠ 0 ∧ ∃ nm : String, Cond.classLink own z.catchType nm ∈ Ts ∧ va_Nc E nm (kS K)) (hx : covers x pc = true) (h0 : x.catchType ≠ 0) (hlink : Cond.classLink own x.catchType name ∈ Ts) (hcast : va_Nw (.castable E name) (kS K)) (k : ∀ q : Nat, V K f kc ks x.handlerPc lv [.ref q]) : VX K f kc ks pc lv E := fun H locs ls cells slots st q ce a1 a2 a3 a4 a5 a6 a7 a8 =>
  vx_catch X.own pre x suf hsplit (fun z hz => Or.inr ⟨(hpass z hz).1, (hpass z hz).2.choose, X.hts _ (hpass z hz).2.choose_spec.1, (hpass z hz).2.choose_spec.2⟩) hx h0 (X.hts _ hlink) (va_any rfl hcast) a6 a7 a8 (k q H locs ls cells slots a1 a2 a3 a4 a5)
end VL
/-! ===== the law's arrays: 0: q (longs); 1: m, 2: r, 3: u, 4: a, 5: t, 6: c ===== -/
def alen (i : Nat) : Nat := if i = 1 then 31 else if i ≤ 3 then 18 else if i ≤ 5 then 31 else 4
def LA (G : GG) (A : Nat → Nat) (lq : Nat → Int64) (la : Nat → Nat → Int32) (f : Wo) : Prop := f (A 0) = some ((41, 0), oJ G 60 lq) ∧ ∀ i, 1 ≤ i → i ≤ 6 → f (A i) = some ((41, i), oI G (alen i) (la i))
/-- what a method of the law that writes its arrays leaves alone -/
def FrA (f f' : Wo) : Prop := ∀ b x, f b = some x → x.1.1 ≠ 41 → f' b = some x
theorem FrA.rf {f : Wo} : FrA f f := fun _ _ h _ => h
theorem FrA.trans {f g h : Wo} (a : FrA f g) (b : FrA g h) : FrA f h := fun x y hx ht => b x y (a x y hx ht) ht
theorem FrA.up {f : Wo} {a i : Nat} {e e' : va_E} (h : f a = some ((41, i), e')) : FrA f (w_up f a (41, i) e) := fun b x hb hx => (w_up_ne _ _ _ (fun q => by subst q; rw [h] at hb; cases hb; exact hx rfl)).trans hb
theorem LA.fr {G : GG} {A : Nat → Nat} {lq : Nat → Int64} {la : Nat → Nat → Int32} {f f' : Wo} (h : LA G A lq la f) (hF : FrC f f') : LA G A lq la f' := ⟨hF _ _ h.1 (by decide : 30 ≤ 41), fun i h1 h2 => hF _ _ (h.2 i h1 h2) (by decide : 30 ≤ 41)⟩
theorem RC.keepA {G : GG} {al : Tg → Nat} {fi : Nat → Nat → Int32} {z : CZ} {f f' : Wo} (h : RC G al fi z f) (hk : FrA f f') : RC G al fi z f' := by
  obtain ⟨w, h1, h2, g0, h3⟩ := h
  refine ⟨w, fun q hq => ?_, fun q hq => ?_, g0, hk _ _ h3 (show (99 : Nat) ≠ 41 by decide)⟩
  · have := dom_lt hq
    exact hk _ _ (h1 q hq) (by show q.1 ≠ 41; omega)
  · have hlt := dol_lt hq
    obtain ⟨vs, hv⟩ := (h2 q hq).hd
    refine (h2 q hq).keep fun b x hb hx => ?_
    rcases hx with hx | hx | hx
    · subst hx
      rw [hv] at hb
      cases hb
      exact hk _ _ hv (by show q.1 ≠ 41; omega)
    · exact hk _ _ hb (by rw [hx]; exact (show (20 : Nat) ≠ 41 by decide))
    · exact hk _ _ hb (by rw [hx]; decide)
theorem alen_le (i : Nat) : alen i ≤ 31 := by unfold alen; split <;> (try split) <;> (try split) <;> omega
theorem LA.ast {G : GG} {A : Nat → Nat} {lq : Nat → Int64} {la : Nat → Nat → Int32} {f : Wo} (h : LA G A lq la f) {i : Nat} (h1 : 1 ≤ i) (h2 : i ≤ 6) (k : Nat) (x : Int32) : LA G A lq (fu la i k x) (w_up f (A i) (41, i) (oI G (alen i) (va_up (la i) k x))) := by
  refine ⟨(w_up_ne _ _ _ (w_neT (h.2 i h1 h2) h.1 (fun e => by injection e with _ e; omega))).trans h.1, fun j j1 j2 => ?_⟩
  by_cases hj : j = i
  · subst hj
    rw [w_up_self, show fu la j k x j = va_up (la j) k x from va_up_self _ _ _]
  · rw [w_up_ne _ _ _ (w_neT (h.2 i h1 h2) (h.2 j j1 j2) (fun e => by injection e with _ e; exact hj e.symm)), h.2 j j1 j2, show fu la i k x j = la j from va_up_ne _ _ hj]
theorem LA.qst {G : GG} {A : Nat → Nat} {lq : Nat → Int64} {la : Nat → Nat → Int32} {f : Wo} (h : LA G A lq la f) (k : Nat) (x : Int64) : LA G A (va_up lq k x) la (w_up f (A 0) (41, 0) (oJ G 60 (va_up lq k x))) :=
  ⟨w_up_self _ _ _ _, fun j j1 j2 => (w_up_ne _ _ _ (w_neT h.1 (h.2 j j1 j2) (fun e => by injection e with _ e; omega))).trans (h.2 j j1 j2)⟩
section VA
variable {K : VK} {cc : ByteArray} {own : String} {Ts : List Cond} {nL fr lo : Nat} {f f0 : Wo} {kc ks pc : Nat} {lv lv' : List (Nat × Value)} {st : List Value} {A : Nat → Nat} {lq : Nat → Int64} {la : Nat → Nat → Int32}
theorem V_qld (X : CX K cc own Ts nL fr lo) (hA : LA (kG K) A lq la f) (k : Nat) (hk : k < 60) {w : Int64} (hw : lq k = w) (hdg : decode cc pc = .ok (.laload, 1)) (kk : V K f kc ks (pc + 1) lv (.long w :: st)) : V K f kc ks pc lv (.int (nI k) :: .ref (A 0) :: st) :=
  V_lald X hA.1 (vp_in_nI hk (by decide)) hdg (by rw [nI_clamp (by omega), hw]; exact kk)
theorem V_ald (X : CX K cc own Ts nL fr lo) (hA : LA (kG K) A lq la f) (i k N : Nat) (hi : 1 ≤ i ∧ i ≤ 6) (hN : alen i = N) (hk : k < N) {w : Int32} (hw : la i k = w) (hdg : decode cc pc = .ok (.iaload, 1)) (kk : V K f kc ks (pc + 1) lv (.int w :: st)) : V K f kc ks pc lv (.int (nI k) :: .ref (A i) :: st) :=
  have hl := alen_le i
  V_iald X (hA.2 i hi.1 hi.2) (vp_in_nI (by rw [hN]; exact hk) (by omega)) hdg (by rw [nI_clamp (by omega), hw]; exact kk)
theorem V_ast (X : CX K cc own Ts nL fr lo) (hA : LA (kG K) A lq la f) (i k N : Nat) (hi : 1 ≤ i ∧ i ≤ 6) (hN : alen i = N) (hk : k < N) {x : Int32} (hdg : decode cc pc = .ok (.iastore, 1)) (kk : ∀ f', LA (kG K) A lq (fu la i k x) f' → FrA f f' → V K f' kc ks (pc + 1) lv st) : V K f kc ks pc lv (.int x :: .int (nI k) :: .ref (A i) :: st) :=
  have hl := alen_le i
  V_iast X (hA.2 i hi.1 hi.2) (by show 41 ≠ 99; decide) (vp_in_nI (by rw [hN]; exact hk) (by omega)) hdg (by rw [nI_clamp (by omega)]; exact kk _ (hA.ast hi.1 hi.2 k x) (FrA.up (hA.2 i hi.1 hi.2)))
theorem V_qst (X : CX K cc own Ts nL fr lo) (hA : LA (kG K) A lq la f) (k : Nat) (hk : k < 60) {x : Int64} (hdg : decode cc pc = .ok (.lastore, 1)) (kk : ∀ f', LA (kG K) A (va_up lq k x) la f' → FrA f f' → V K f' kc ks (pc + 1) lv st) : V K f kc ks pc lv (.long x :: .int (nI k) :: .ref (A 0) :: st) :=
  V_last X hA.1 (by show 41 ≠ 99; decide) (vp_in_nI hk (by decide)) hdg (by rw [nI_clamp (by omega)]; exact kk _ (hA.qst k x) (FrA.up hA.1))
end VA
