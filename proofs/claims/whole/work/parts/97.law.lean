/-! ===== the law's helpers: contracts with what a catch needs ===== -/
def cfW : List Cond := [.castable "java/lang/IllegalArgumentException" "java/lang/IllegalArgumentException", .castable "java/lang/IllegalStateException" "java/lang/IllegalStateException", .castable "java/lang/IndexOutOfBoundsException" "java/lang/IndexOutOfBoundsException"]
def cfN : List (String × String) := [("java/lang/IllegalStateException", "java/lang/IllegalArgumentException"), ("java/lang/IllegalStateException", "java/lang/IndexOutOfBoundsException"), ("java/lang/IllegalArgumentException", "java/lang/IndexOutOfBoundsException")]
def CF (U : State) : Prop := (∀ w ∈ cfW, va_Nw w U) ∧ ∀ q ∈ cfN, va_Nc q.1 q.2 U
theorem cfW_cd : ∀ w ∈ cfW, isCD w = true := by decide +kernel
theorem CF.moved {u U : State} (hvm : u.vm.Alike U.vm) (h : CF u) : CF U := ⟨fun w hw => va_Nw.cd (cfW_cd w hw) hvm (h.1 w hw), fun q hq => (h.2 q hq).moved hvm⟩
def CPh (G : GG) (as : List Value) (f : Wo) : Array Value → State → Prop := va_Pc as (fun U => KK G U U.heap ∧ CF U ∧ w_H G f U.heap)
theorem CPh.blind {G : GG} {as : List Value} {f : Wo} : FrameBlind (CPh G as f) := fun a U g mk q => ⟨q.1, KK.moved (u := U) (U := U.calling g mk a) (State.WarmedH.refl U) q.2.1, CF.moved (u := U) (U := U.calling g mk a) (State.WarmedH.refl U).alike q.2.2.1, q.2.2.2⟩
def Ch (l : Launch) (y : MethodName) (ws : List Cond) (fr lo : Nat) (G : GG) (as : List Value) (f : Wo) (post : Option Value → Wo → Prop) (mc ms : Nat) : Prop := Met l y ws (rmk fr lo mc ms) (CPh G as f) (CQ G post) mc ms (gA G)
theorem Ch.of {l : Launch} {y : MethodName} {ws ws' : List Cond} {cc : ByteArray} {maxL fr lo mc ms : Nat} {ret : Option FieldType} {hh : List (Nat × Nat × Nat × Nat)} {G : GG} {as : List Value} {f : Wo} {post : Option Value → Wo → Prop} {lv : List (Nat × Value)} (hy : plainName y.cls = true) (hw : ws = Cond.codeWith y cc maxL ret hh :: ws') (hlen : (lg_sl as).length ≤ maxL) (hlv : lv_args 0 as = lv) (hcat : ∀ q ∈ lv, q.2.category = 1) (body : ∀ K : VK, CX K cc y.cls ws maxL fr lo → kL K = l → kG K = G → RQ K ret post → CF (kS K) → (kC K).exceptionTable.toList = tableOf hh → V K f mc ms 0 lv []) : Ch l y ws fr lo G as f post mc ms := by
  show Met l y ws (rmk fr lo mc ms) (CPh G as f) (CQ G post) mc ms (gA G)
  refine MetFree.of_bodyS (code := cc) (maxLocals := maxL) (ret := ret) hy ?_ ?_
  · intro args s m h hn
    obtain ⟨m9, meth, c, hn9, h1, h2, h3, h4, -, h5, h6, -⟩ := Cond.codeWith_spec (atoms_spec (ws := ws) h _ (by rw [hw]; exact List.mem_cons_self))
    cases hn.symm.trans hn9
    exact ⟨meth, c, h1, h2, h3, h4, h5, h6⟩
  · intro p e s m args below meth c s₁ B hml hP _
    obtain ⟨rfl, hKK, hCF, hf⟩ := hP
    have hh0 : s₁.heap = s.heap := by rw [B.state]; rfl
    have htab : c.exceptionTable.toList = tableOf hh := vx_table (x := y) B (atoms_spec (ws := ws) B.pre _ (by rw [hw]; exact List.mem_cons_self))
    have hX : CX ((p, l, e, (headSpec ws (rmk fr lo mc ms)).room, s), (m, as.toArray, below, meth, c), (G, maxL, mc, ms, MQ below (CQ G post) as.toArray s mc ms (gA G))) cc y.cls ws maxL fr lo := ⟨B.exec, B.bytes, hml, findClass_of_methodNamed B.named, atoms_spec (ws := ws) B.pre, hKK, B.notSynchronized, rfl, rfl⟩
    have hl := lv_entry as (n := maxL) hlen
    have key : W p l e (headSpec ws (rmk fr lo mc ms)).room s m as.toArray below meth c s.heap [] 0 0 (MQ below (CQ G post) as.toArray s mc ms (gA G)) (entryFrame m as.toArray maxL) := by
      rw [lg_entry_eq]
      subst hlv
      exact body _ hX rfl rfl ⟨B.returns, fun _ _ _ _ _ h => h⟩ hCF htab s.heap [] _ 0 0 hf va_S.rf ⟨hl, hcat⟩ (by show 0 + mc ≤ mc; omega) (by show 0 + ms ≤ ms; omega)
    obtain ⟨t, a1, o, b1, b2, b3⟩ := key s₁ hh0 (Stand.of_body B)
    exact ⟨t, o, a1, b1, b2, ⟨b3.1, b3.2⟩⟩
section VL
variable {K : VK} {cc : ByteArray} {own : String} {Ts : List Cond} {nL fr lo : Nat} {f : Wo} {kc ks pc : Nat} {lv lv' : List (Nat × Value)} {st : List Value}
theorem CPh.pre (X : CX K cc own Ts nL fr lo) (hCF : CF (kS K)) {as : List Value} {H : Heap} {locs : List Loc} (a1 : w_H (kG K) f H) (a2 : va_S (gA (kG K)) (kS K).heap H locs) : PreS (kS K) H (CPh (kG K) as f) as := ⟨CPh.blind, fun U hU hW => ⟨rfl, by rw [hU]; exact KK.moved hW (X.kk.kept a2), CF.moved hW.alike hCF, by rw [hU]; exact a1⟩⟩
theorem V_callSH (X : CX K cc own Ts nL fr lo) (hCF : CF (kS K)) {y : MethodName} {ws ws' : List Cond} {fr' lo' mc' ms' kc' ks' index maxL : Nat} {bytes : ByteArray} {ret' : Option FieldType} {hh : List (Nat × Nat × Nat × Nat)} {as rest : List Value} {post' : Option Value → Wo → Prop} (hM : Ch (kL K) y ws fr' lo' (kG K) as f post' mc' ms') (hT : GoodIn Ts (va_wsS own index y ws)) (hw : ws = Cond.codeWith y bytes maxL ret' hh :: ws') (hd : y.cls ≠ "java/lang/invoke/MethodHandle" ∧ y.cls ≠ "java/lang/invoke/VarHandle" ∧ (parseMethodDescriptor y.desc).map (fun d => d.parameters.length) = some as.length) (hfr : fr' + 1 ≤ fr) (hlo : 8 + (maxL + 11) + lo' ≤ lo) (hst : st = as.reverse ++ rest) (hcat : (rest.map fun v => v.category).sum ≤ 8) (hkc : kc' + mc' ≤ kc) (hks : ks' + ms' ≤ ks) (hdg : decode cc pc = .ok (.invokestatic index, 3)) (kk : ∀ (r : Option Value) (f' : Wo), post' r f' → V K f' kc' ks' (pc + 3) lv (stk r rest)) : V K f kc ks pc lv st :=
  V_run (px := as) X hkc hks (fun H locs ls cells slots a1 a2 a3 a4 a5 => vx_runSW (As := as) (rest := rest) X.fix hM (vx_cwSW as.length X.hts hT hw rfl rfl hd (by rw [X.rm]; exact ⟨hfr, hlo⟩)) (CPh.pre X hCF a1 a2) rfl rfl a3.1.1 hst (lv_room hcat) hdg (by rw [X.rm]; exact ⟨a4, a5⟩)) kk
/-- the handler x takes what is thrown -/
theorem V_catch (X : CX K cc own Ts nL fr lo) {E name : String} (pre : List ExceptionTableEntry) (x : ExceptionTableEntry) (suf : List ExceptionTableEntry) (hsplit : (kC K).exceptionTable.toList = pre ++ x :: suf) (hpass : ∀ z ∈ pre, z.catchType ≠ 0 ∧ ∃ nm : String, Cond.classLink own z.catchType nm ∈ Ts ∧ va_Nc E nm (kS K)) (hx : covers x pc = true) (h0 : x.catchType ≠ 0) (hlink : Cond.classLink own x.catchType name ∈ Ts) (hcast : va_Nw (.castable E name) (kS K)) (k : ∀ q : Nat, V K f kc ks x.handlerPc lv [.ref q]) : VX K f kc ks pc lv E := fun H locs ls cells slots st q ce a1 a2 a3 a4 a5 a6 a7 a8 =>
  vx_catch X.own pre x suf hsplit (fun z hz => Or.inr ⟨(hpass z hz).1, (hpass z hz).2.choose, X.hts _ (hpass z hz).2.choose_spec.1, (hpass z hz).2.choose_spec.2⟩) hx h0 (X.hts _ hlink) (va_any rfl hcast) a6 a7 a8 (k q H locs ls cells slots a1 a2 a3 a4 a5)
end VL
abbrev oJ1 (G : GG) (g : Nat → Int64) : va_E := oJ G 1 g
def bJ (b : Bool) : Int64 := bif b then 1 else 0
