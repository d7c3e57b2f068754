/-! ===== worlds as partial functions, one frame for all, and the judgement V ===== -/
abbrev Tg : Type := Nat × Nat
abbrev Wo : Type := Nat → Option (Tg × va_E)
def w_up (f : Wo) (a : Nat) (t : Tg) (e : va_E) : Wo := fun b => if b = a then some (t, e) else f b
theorem w_up_self (f : Wo) (a : Nat) (t : Tg) (e : va_E) : w_up f a t e a = some (t, e) := if_pos rfl
theorem w_up_ne (f : Wo) {a b : Nat} (t : Tg) (e : va_E) (h : b ≠ a) : w_up f a t e b = f b := if_neg h
/-- two addresses that hold different things are different -/
theorem w_ne {f : Wo} {a b : Nat} {x y : Tg × va_E} (ha : f a = some x) (hb : f b = some y) (h : x ≠ y) : b ≠ a := fun e => h (by subst e; exact Option.some.inj (ha.symm.trans hb))
theorem w_neT {f : Wo} {a b : Nat} {t u : Tg} {x y : va_E} (ha : f a = some (t, x)) (hb : f b = some (u, y)) (h : t ≠ u) : b ≠ a := w_ne ha hb (fun e => h (congrArg Prod.fst e))
theorem w_neN {f : Wo} {a q : Nat} {x : Tg × va_E} (ha : f a = some x) (hq : f q = none) : a ≠ q := fun e => by subst e; rw [ha] at hq; cases hq
abbrev GG : Type := va_G × (Nat → Nat)
def gN (G : GG) : Nat := G.2 0
def gE (G : GG) : Nat := G.2 1
def gI (G : GG) : Nat := G.2 2
def gZ (G : GG) : Nat := G.2 3
def gJ (G : GG) : Nat := G.2 4
def gO (G : GG) : Nat := G.2 5
def gM (G : GG) : Nat := G.2 6
def gA (G : GG) : Nat → Prop := fun q => gN G ≤ q
def gT (G : GG) : List (ClassId × FieldType) := [(gI G, .int), (gZ G, .boolean), (gJ G, .long), (gO G, .object "java/lang/Object")]
def w_H (G : GG) (f : Wo) (H : Heap) : Prop := ∀ (a : Nat) (t : Tg) (e : va_E), f a = some (t, e) → va_at G.1 vwCl (a, e) H ∧ (t.1 = 99 ∨ gN G ≤ a)
theorem w_H.lt {G : GG} {f : Wo} {H : Heap} (h : w_H G f H) {a : Nat} {t : Tg} {e : va_E} (ha : f a = some (t, e)) : a < H.size := va_at.lt (h a t e ha).1
theorem w_H.P {G : GG} {f : Wo} {H : Heap} (h : w_H G f H) {a : Nat} {t : Tg} {e : va_E} (ha : f a = some (t, e)) : va_P G.1 vwCl [(a, e)] H := fun k q hk => by
  have hz : k < 1 := (List.getElem?_eq_some_iff.mp hk).1
  rw [show k = 0 by omega] at hk
  cases hk
  exact (h a t e ha).1
theorem w_H.own {G : GG} {f : Wo} {H : Heap} (h : w_H G f H) {a : Nat} {t : Tg} {e : va_E} (ha : f a = some (t, e)) (ht : t.1 ≠ 99) : gA G a := (h a t e ha).2.resolve_left ht
theorem w_H.put {G : GG} {f : Wo} {H H1 : Heap} (h : w_H G f H) {a : Nat} {t : Tg} {e : va_E} (hn : gN G ≤ a) (he : va_at G.1 vwCl (a, e) H1) (oq : ∀ q : Nat, q ≠ a → H1[q]? = H[q]?) : w_H G (w_up f a t e) H1 := by
  intro b u x hb
  by_cases hba : b = a
  · subst hba
    rw [w_up_self] at hb
    cases hb
    exact ⟨he, Or.inr hn⟩
  · rw [w_up_ne _ _ _ hba] at hb
    exact ⟨(h b u x hb).1.kept (oq b hba), (h b u x hb).2⟩
theorem w_H.new {G : GG} {f : Wo} {H H1 : Heap} (h : w_H G f H) {t : Tg} {e : va_E} (hn : gN G ≤ H.size) (he : va_at G.1 vwCl (H.size, e) H1) (oq : ∀ q : Nat, q < H.size → H1[q]? = H[q]?) : w_H G (w_up f H.size t e) H1 ∧ f H.size = none := by
  refine ⟨?_, ?_⟩
  · intro b u x hb
    by_cases hba : b = H.size
    · subst hba
      rw [w_up_self] at hb
      cases hb
      exact ⟨he, Or.inr hn⟩
    · rw [w_up_ne _ _ _ hba] at hb
      exact ⟨(h b u x hb).1.kept (oq b (h.lt hb)), (h b u x hb).2⟩
  · cases hf : f H.size with
    | none => rfl
    | some y => exact absurd (h.lt (a := H.size) (t := y.1) (e := y.2) hf) (Nat.lt_irrefl _)
/-- locals: a list of places and values -/
def lk : List (Nat × Value) → Nat → Option Value
  | [], _ => none
  | q :: t, i => bif Nat.beq q.1 i then some q.2 else lk t i
def rmv : List (Nat × Value) → Nat → List (Nat × Value)
  | [], _ => []
  | q :: t, i => bif Nat.beq q.1 i then rmv t i else q :: rmv t i
def lh (ls : Array Slot) (nL : Nat) (lv : List (Nat × Value)) : Prop := lv_has ls nL lv ∧ ∀ q ∈ lv, q.2.category = 1
theorem lk_mem : ∀ (lv : List (Nat × Value)) (i : Nat) (v : Value), lk lv i = some v → (i, v) ∈ lv
  | [], _, _, h => by cases h
  | q :: t, i, v, h => by
    unfold lk at h
    cases hq : Nat.beq q.1 i with
    | true =>
      rw [hq] at h
      have h2 : q.2 = v := Option.some.inj h
      have h1 : q.1 = i := Nat.eq_of_beq_eq_true hq
      subst h1; subst h2
      exact List.mem_cons_self
    | false =>
      rw [hq] at h
      exact List.mem_cons_of_mem _ (lk_mem t i v h)
theorem rmv_eq : ∀ (lv : List (Nat × Value)) (i : Nat), (∀ q ∈ lv, q.2.category = 1) → lv.filter (fun q => !(q.1 == i) && !(q.1 + 1 == i && q.2.category == 2)) = rmv lv i
  | [], _, _ => rfl
  | q :: t, i, h => by
    have ht := rmv_eq t i (fun x hx => h x (List.mem_cons_of_mem _ hx))
    have hc := h q List.mem_cons_self
    unfold rmv
    cases hq : Nat.beq q.1 i with
    | true =>
      have h1 : q.1 = i := Nat.eq_of_beq_eq_true hq
      rw [List.filter_cons_of_neg (by simp [h1])]
      exact ht
    | false =>
      have h1 : q.1 ≠ i := Nat.ne_of_beq_eq_false hq
      rw [List.filter_cons_of_pos (by simp [h1, hc])]
      exact congrArg (q :: ·) ht
theorem rmv_mem {lv : List (Nat × Value)} {i : Nat} (h : ∀ q ∈ lv, q.2.category = 1) : ∀ q ∈ rmv lv i, q.2.category = 1 := by
  rw [← rmv_eq lv i h]
  exact fun q hq => h q (List.mem_filter.mp hq).1
theorem lh.at {ls : Array Slot} {nL : Nat} {lv : List (Nat × Value)} (h : lh ls nL lv) {i : Nat} {v : Value} (hk : lk lv i = some v) : ls[i]? = some (.val v) := h.1.2.2 (i, v) (lk_mem lv i v hk)
theorem lh.sub {ls : Array Slot} {nL : Nat} {lv lv' : List (Nat × Value)} (h : lh ls nL lv) (hs : lv'.map (fun q => lk lv q.1) = lv'.map (fun q => some q.2)) : lh ls nL lv' := by
  have hm : ∀ q ∈ lv', lk lv q.1 = some q.2 := List.map_inj_left.mp hs
  exact ⟨⟨h.1.1, h.1.2.1, fun q hq => h.at (hm q hq)⟩, fun q hq => h.2 _ (lk_mem _ _ _ (hm q hq))⟩
/-- the tables' and the statics' facts -/
def KK (G : GG) (U : State) (H : Heap) : Prop := gN G ≤ H.size ∧ va_K G.1 vwCl (gT G) U ∧ va_Z "java/util/ArrayList" "DEFAULTCAPACITY_EMPTY_ELEMENTDATA" "[Ljava/lang/Object;" (.ref (gE G)) (gA G) U H ∧ vx_Zq Bundle.tN "UNASSIGNED_STACK" Bundle.steD (gA G) U H ∧ vx_Zq Bundle.tN "SUPPRESSED_SENTINEL" Bundle.listD (gA G) U H ∧ va_Mi "[Ljava/lang/Object;" (gM G) U ∧ va_Dc U ∧ va_AO "java/lang/Object" U
theorem KK.moved {G : GG} {u U : State} {H : Heap} (hvm : u.vm.Alike U.vm) (h : KK G u H) : KK G U H := ⟨h.1, va_K.moved hvm h.2.1, va_Z.moved hvm h.2.2.1, vx_Zq.moved hvm h.2.2.2.1, vx_Zq.moved hvm h.2.2.2.2.1, va_Mi.moved hvm h.2.2.2.2.2.1, va_Dc.moved hvm h.2.2.2.2.2.2.1, va_AO.moved hvm h.2.2.2.2.2.2.2⟩
theorem KK.kept {G : GG} {u : State} {H0 H : Heap} {locs : List Loc} (h : KK G u H0) (hS : va_S (gA G) H0 H locs) : KK G u H := ⟨Nat.le_trans h.1 hS.1, h.2.1, h.2.2.1.kept hS.2.1, h.2.2.2.1.kept hS.2.1, h.2.2.2.2.1.kept hS.2.1, h.2.2.2.2.2⟩
/-- contracts: as: the arguments; f: the world; post: answer and world behind it -/
def CP (G : GG) (as : List Value) (f : Wo) : Array Value → State → Prop := va_Pc as (fun U => KK G U U.heap ∧ w_H G f U.heap)
def CQ (G : GG) (post : Option Value → Wo → Prop) : Array Value → State → Outcome → State → Prop := fun _ st oc t => (∃ (r : Option Value) (f' : Wo), oc = .returned r ∧ post r f' ∧ w_H G f' t.heap) ∧ va_F (gA G) st t
def CT (G : GG) (px : String → Wo → Prop) : String → State → State → Prop := fun E st t => (∃ f' : Wo, px E f' ∧ w_H G f' t.heap) ∧ va_F (gA G) st t
def rmk (fr lo mc ms : Nat) : Room := { frames := fr, cells := mc, slots := ms, locals := lo }
def Ct (l : Launch) (y : MethodName) (ws : List Cond) (fr lo : Nat) (G : GG) (as : List Value) (f : Wo) (post : Option Value → Wo → Prop) (mc ms : Nat) : Prop := Met l y ws (rmk fr lo mc ms) (CP G as f) (CQ G post) mc ms (gA G)
def Cx (l : Launch) (y : MethodName) (ws : List Cond) (fr lo : Nat) (G : GG) (as : List Value) (f : Wo) (post : Option Value → Wo → Prop) (px : String → Wo → Prop) (mc ms : Nat) : Prop := vx_Met l y ws (rmk fr lo mc ms) (CP G as f) (CQ G post) (CT G px) mc ms (gA G)
theorem CP.blind {G : GG} {as : List Value} {f : Wo} : FrameBlind (CP G as f) := fun a U g mk q => ⟨q.1, KK.moved (u := U) (U := U.calling g mk a) (Vm.Alike.refl U.vm) q.2.1, q.2.2⟩
/-- a method's run: the machine, the frame, the ghosts, locals, room, what is owed -/
abbrev VK : Type := (Program × Launch × Env × Room × State) × (MethodId × Array Value × List Frame × Method × Code) × (GG × Nat × Nat × Nat × (State → Prop))
def kP (K : VK) : Program := K.1.1
def kL (K : VK) : Launch := K.1.2.1
def kE (K : VK) : Env := K.1.2.2.1
def kR (K : VK) : Room := K.1.2.2.2.1
def kS (K : VK) : State := K.1.2.2.2.2
def kM (K : VK) : MethodId := K.2.1.1
def kA (K : VK) : Array Value := K.2.1.2.1
def kB (K : VK) : List Frame := K.2.1.2.2.1
def kY (K : VK) : Method := K.2.1.2.2.2.1
def kC (K : VK) : Code := K.2.1.2.2.2.2
def kG (K : VK) : GG := K.2.2.1
def kN (K : VK) : Nat := K.2.2.2.1
def kmc (K : VK) : Nat := K.2.2.2.2.1
def kms (K : VK) : Nat := K.2.2.2.2.2.1
def kQ (K : VK) : State → Prop := K.2.2.2.2.2.2
abbrev WK (K : VK) (H : Heap) (locs : List Loc) (cells slots : Nat) (g : JFrame) : Prop := W (kP K) (kL K) (kE K) (kR K) (kS K) (kM K) (kA K) (kB K) (kY K) (kC K) H locs cells slots (kQ K) g
def V (K : VK) (f : Wo) (kc ks pc : Nat) (lv : List (Nat × Value)) (st : List Value) : Prop :=
  ∀ (H : Heap) (locs : List Loc) (ls : Array Slot) (cells slots : Nat), w_H (kG K) f H → va_S (gA (kG K)) (kS K).heap H locs → lh ls (kN K) lv → cells + kc ≤ kmc K → slots + ks ≤ kms K → WK K H locs cells slots (F0 (kM K) pc ls st)
/-- q is thrown at pc -/
def VX (K : VK) (f : Wo) (kc ks pc : Nat) (lv : List (Nat × Value)) (E : String) : Prop :=
  ∀ (H : Heap) (locs : List Loc) (ls : Array Slot) (cells slots : Nat) (st : List Value) (q : Addr) (ce : Cell), w_H (kG K) f H → va_S (gA (kG K)) (kS K).heap H locs → lh ls (kN K) lv → cells + kc ≤ kmc K → slots + ks ≤ kms K → H[q]? = some ce → ce.vm = .none → (kS K).vm.findClass E = some ce.cls → vx_W (kP K) (kL K) (kE K) (kR K) (kS K) (kM K) (kA K) (kB K) (kY K) (kC K) H locs cells slots (kQ K) (F0 (kM K) pc ls st) q
def CX (K : VK) (cc : ByteArray) (own : String) (Ts : List Cond) : Prop :=
  (kP K).tables.exec = Jvm.exec ∧ (kC K).code = cc ∧ (kC K).maxLocals = kN K ∧ (kS K).vm.findClass own = some (kM K).cls ∧ (∀ w ∈ Ts, w.before (kA K) (kS K) = true) ∧ KK (kG K) (kS K) (kS K).heap ∧ (kY K).locks = false ∧ kmc K ≤ (kR K).cells ∧ kms K ≤ (kR K).slots
/-- what a return owes -/
def RQ (K : VK) (ret : Option FieldType) (post : Option Value → Wo → Prop) : Prop := (kY K).sig.returnType = ret ∧ ∀ (H : Heap) (locs : List Loc) (cells slots : Nat) (g : JFrame), W (kP K) (kL K) (kE K) (kR K) (kS K) (kM K) (kA K) (kB K) (kY K) (kC K) H locs cells slots (MQ (kB K) (CQ (kG K) post) (kA K) (kS K) (kmc K) (kms K) (gA (kG K))) g → WK K H locs cells slots g
/-- what a throw owes -/
def TQ (K : VK) (px : String → Wo → Prop) : Prop := (∀ x ∈ (kC K).exceptionTable.toList, False) ∧ ∃ Qc, kQ K = vx_MQ (kB K) Qc (CT (kG K) px) (kA K) (kS K) (kmc K) (kms K) (gA (kG K))
section VR
variable {K : VK} {cc : ByteArray} {own : String} {Ts : List Cond} {f : Wo} {kc ks pc : Nat} {lv lv' : List (Nat × Value)} {st : List Value} {ret : Option FieldType} {post : Option Value → Wo → Prop}
theorem V.lvs (hs : lv'.map (fun q => lk lv q.1) = lv'.map (fun q => some q.2)) (k : V K f kc ks pc lv' st) : V K f kc ks pc lv st := fun H locs ls cells slots h1 h2 h3 h4 h5 => k H locs ls cells slots h1 h2 (h3.sub hs) h4 h5
theorem V.bud {kc' ks' : Nat} (h1 : kc' ≤ kc) (h2 : ks' ≤ ks) (k : V K f kc' ks' pc lv st) : V K f kc ks pc lv st := fun H locs ls cells slots a1 a2 a3 a4 a5 => k H locs ls cells slots a1 a2 a3 (by omega) (by omega)
theorem V.sub {f' : Wo} (h : ∀ a t e, f' a = some (t, e) → f a = some (t, e)) (k : V K f' kc ks pc lv st) : V K f kc ks pc lv st := fun H locs ls cells slots a1 a2 a3 a4 a5 => k H locs ls cells slots (fun a t e he => a1 a t e (h a t e he)) a2 a3 a4 a5
theorem V.stk {st' : List Value} (h : st = st') (k : V K f kc ks pc lv st') : V K f kc ks pc lv st := h ▸ k
theorem V.top {x y : Int32} (h : x = y) (k : V K f kc ks pc lv (.int y :: st)) : V K f kc ks pc lv (.int x :: st) := h ▸ k
theorem V.pcq {pc' : Nat} (h : pc = pc') (k : V K f kc ks pc' lv st) : V K f kc ks pc lv st := h ▸ k

theorem V_iconst (X : CX K cc own Ts) {n : Int} {v : Int32} (hv : Int32.ofInt n = v) (hdg : decode cc pc = .ok (.iconst n, 1)) (k : V K f kc ks (pc + 1) lv (.int v :: st)) : V K f kc ks pc lv (st) := fun H locs ls cells slots a1 a2 a3 a4 a5 => lv_iconst X.1 X.2.1 hdg hv (k H locs ls cells slots a1 a2 a3 a4 a5)
theorem V_bipush (X : CX K cc own Ts) {n : Int} {v : Int32} (hv : (Int8.ofInt n).toInt32 = v) (hdg : decode cc pc = .ok (.bipush n, 2)) (k : V K f kc ks (pc + 2) lv (.int v :: st)) : V K f kc ks pc lv (st) := fun H locs ls cells slots a1 a2 a3 a4 a5 => lv_bipush X.1 X.2.1 hdg hv (k H locs ls cells slots a1 a2 a3 a4 a5)
theorem V_sipush (X : CX K cc own Ts) {n : Int} {v : Int32} (hv : (Int16.ofInt n).toInt32 = v) (hdg : decode cc pc = .ok (.sipush n, 3)) (k : V K f kc ks (pc + 3) lv (.int v :: st)) : V K f kc ks pc lv (st) := fun H locs ls cells slots a1 a2 a3 a4 a5 => lv_sipush X.1 X.2.1 hdg hv (k H locs ls cells slots a1 a2 a3 a4 a5)
theorem V_lconst (X : CX K cc own Ts) {n : Fin 2} {v : Int64} (hv : Int64.ofNat (n : Nat) = v) (hdg : decode cc pc = .ok (.lconst n, 1)) (k : V K f kc ks (pc + 1) lv (.long v :: st)) : V K f kc ks pc lv (st) := fun H locs ls cells slots a1 a2 a3 a4 a5 => lv_lconst X.1 X.2.1 hdg hv (k H locs ls cells slots a1 a2 a3 a4 a5)
theorem V_null (X : CX K cc own Ts) (hdg : decode cc pc = .ok (.aconst_null, 1)) (k : V K f kc ks (pc + 1) lv (.null :: st)) : V K f kc ks pc lv (st) := fun H locs ls cells slots a1 a2 a3 a4 a5 => lv_null X.1 X.2.1 hdg (k H locs ls cells slots a1 a2 a3 a4 a5)
theorem V_iload_n (X : CX K cc own Ts) {j : Fin 4} {x : Int32} (h : lk lv (j : Nat) = some (.int x)) (hdg : decode cc pc = .ok (.iload_n j, 1)) (k : V K f kc ks (pc + 1) lv (.int x :: st)) : V K f kc ks pc lv (st) := fun H locs ls cells slots a1 a2 a3 a4 a5 => lv_iload_n X.1 X.2.1 hdg rfl (a3.at h) (k H locs ls cells slots a1 a2 a3 a4 a5)
theorem V_iload (X : CX K cc own Ts) {i : Nat} {x : Int32} (h : lk lv i = some (.int x)) (hdg : decode cc pc = .ok (.iload i, 2)) (k : V K f kc ks (pc + 2) lv (.int x :: st)) : V K f kc ks pc lv (st) := fun H locs ls cells slots a1 a2 a3 a4 a5 => lv_iload X.1 X.2.1 hdg (a3.at h) (k H locs ls cells slots a1 a2 a3 a4 a5)
theorem V_aload_n (X : CX K cc own Ts) {j : Fin 4} {x : Nat} (h : lk lv (j : Nat) = some (.ref x)) (hdg : decode cc pc = .ok (.aload_n j, 1)) (k : V K f kc ks (pc + 1) lv (.ref x :: st)) : V K f kc ks pc lv (st) := fun H locs ls cells slots a1 a2 a3 a4 a5 => lv_aload_n X.1 X.2.1 hdg rfl (a3.at h) (k H locs ls cells slots a1 a2 a3 a4 a5)
theorem V_aload (X : CX K cc own Ts) {i : Nat} {x : Nat} (h : lk lv i = some (.ref x)) (hdg : decode cc pc = .ok (.aload i, 2)) (k : V K f kc ks (pc + 2) lv (.ref x :: st)) : V K f kc ks pc lv (st) := fun H locs ls cells slots a1 a2 a3 a4 a5 => lv_aload X.1 X.2.1 hdg (a3.at h) (k H locs ls cells slots a1 a2 a3 a4 a5)
theorem V_aload_nN (X : CX K cc own Ts) {j : Fin 4} (h : lk lv (j : Nat) = some .null) (hdg : decode cc pc = .ok (.aload_n j, 1)) (k : V K f kc ks (pc + 1) lv (.null :: st)) : V K f kc ks pc lv (st) := fun H locs ls cells slots a1 a2 a3 a4 a5 => lv_aload_nN X.1 X.2.1 hdg rfl (a3.at h) (k H locs ls cells slots a1 a2 a3 a4 a5)
theorem V_istore_n (X : CX K cc own Ts) {j : Fin 4} {x : Int32} (hn : (j : Nat) < kN K) (hl : ((j : Nat), Value.int x) :: rmv lv (j : Nat) = lv') (hdg : decode cc pc = .ok (.istore_n j, 1)) (k : V K f kc ks (pc + 1) lv' st) : V K f kc ks pc lv (Value.int x :: st) := fun H locs ls cells slots a1 a2 a3 a4 a5 => lv_istore_n X.1 X.2.1 hdg rfl a3.1 hn ((congrArg (((j : Nat), Value.int x) :: ·) (rmv_eq lv _ a3.2)).trans hl) (fun ls' h' => k H locs ls' cells slots a1 a2 ⟨h', by rw [← hl]; exact fun q hq => (List.mem_cons.mp hq).elim (fun e => by rw [e]; rfl) (rmv_mem a3.2 q)⟩ a4 a5)
theorem V_istore (X : CX K cc own Ts) {i : Nat} {x : Int32} (hn : i < kN K) (hl : (i, Value.int x) :: rmv lv i = lv') (hdg : decode cc pc = .ok (.istore i, 2)) (k : V K f kc ks (pc + 2) lv' st) : V K f kc ks pc lv (Value.int x :: st) := fun H locs ls cells slots a1 a2 a3 a4 a5 => lv_istore X.1 X.2.1 hdg a3.1 hn ((congrArg ((i, Value.int x) :: ·) (rmv_eq lv _ a3.2)).trans hl) (fun ls' h' => k H locs ls' cells slots a1 a2 ⟨h', by rw [← hl]; exact fun q hq => (List.mem_cons.mp hq).elim (fun e => by rw [e]; rfl) (rmv_mem a3.2 q)⟩ a4 a5)
theorem V_astore_n (X : CX K cc own Ts) {j : Fin 4} {x : Nat} (hn : (j : Nat) < kN K) (hl : ((j : Nat), Value.ref x) :: rmv lv (j : Nat) = lv') (hdg : decode cc pc = .ok (.astore_n j, 1)) (k : V K f kc ks (pc + 1) lv' st) : V K f kc ks pc lv (Value.ref x :: st) := fun H locs ls cells slots a1 a2 a3 a4 a5 => lv_astore_n X.1 X.2.1 hdg rfl a3.1 hn ((congrArg (((j : Nat), Value.ref x) :: ·) (rmv_eq lv _ a3.2)).trans hl) (fun ls' h' => k H locs ls' cells slots a1 a2 ⟨h', by rw [← hl]; exact fun q hq => (List.mem_cons.mp hq).elim (fun e => by rw [e]; rfl) (rmv_mem a3.2 q)⟩ a4 a5)
theorem V_astore (X : CX K cc own Ts) {i : Nat} {x : Nat} (hn : i < kN K) (hl : (i, Value.ref x) :: rmv lv i = lv') (hdg : decode cc pc = .ok (.astore i, 2)) (k : V K f kc ks (pc + 2) lv' st) : V K f kc ks pc lv (Value.ref x :: st) := fun H locs ls cells slots a1 a2 a3 a4 a5 => lv_astore X.1 X.2.1 hdg a3.1 hn ((congrArg ((i, Value.ref x) :: ·) (rmv_eq lv _ a3.2)).trans hl) (fun ls' h' => k H locs ls' cells slots a1 a2 ⟨h', by rw [← hl]; exact fun q hq => (List.mem_cons.mp hq).elim (fun e => by rw [e]; rfl) (rmv_mem a3.2 q)⟩ a4 a5)
theorem V_iinc (X : CX K cc own Ts) {i : Nat} {n : Int} {x v : Int32} (h : lk lv i = some (.int x)) (hv : x + Int32.ofInt n = v) (hn : i < kN K) (hl : (i, Value.int v) :: rmv lv i = lv') (hdg : decode cc pc = .ok (.iinc i n, 3)) (k : V K f kc ks (pc + 3) lv' st) : V K f kc ks pc lv st := fun H locs ls cells slots a1 a2 a3 a4 a5 => by
  obtain ⟨q, hq⟩ := List.getElem?_of_mem (lk_mem lv i _ h)
  exact lv_iinc X.1 X.2.1 hdg a3.1 hq hv hn ((congrArg ((i, Value.int v) :: ·) (rmv_eq lv _ a3.2)).trans hl) (fun ls' h' => k H locs ls' cells slots a1 a2 ⟨h', by rw [← hl]; exact fun q hq => (List.mem_cons.mp hq).elim (fun e => by rw [e]; rfl) (rmv_mem a3.2 q)⟩ a4 a5)
theorem V_iadd (X : CX K cc own Ts) {x y : Int32} (hdg : decode cc pc = .ok (.iadd, 1)) (k : V K f kc ks (pc + 1) lv (.int (x + y) :: st)) : V K f kc ks pc lv (.int y :: .int x :: st) := fun H locs ls cells slots a1 a2 a3 a4 a5 => lv_iadd X.1 X.2.1 hdg (k H locs ls cells slots a1 a2 a3 a4 a5)
theorem V_isub (X : CX K cc own Ts) {x y : Int32} (hdg : decode cc pc = .ok (.isub, 1)) (k : V K f kc ks (pc + 1) lv (.int (x - y) :: st)) : V K f kc ks pc lv (.int y :: .int x :: st) := fun H locs ls cells slots a1 a2 a3 a4 a5 => lv_isub X.1 X.2.1 hdg (k H locs ls cells slots a1 a2 a3 a4 a5)
theorem V_imul (X : CX K cc own Ts) {x y : Int32} (hdg : decode cc pc = .ok (.imul, 1)) (k : V K f kc ks (pc + 1) lv (.int (x * y) :: st)) : V K f kc ks pc lv (.int y :: .int x :: st) := fun H locs ls cells slots a1 a2 a3 a4 a5 => lv_imul X.1 X.2.1 hdg (k H locs ls cells slots a1 a2 a3 a4 a5)
theorem V_iand (X : CX K cc own Ts) {x y : Int32} (hdg : decode cc pc = .ok (.iand, 1)) (k : V K f kc ks (pc + 1) lv (.int (x &&& y) :: st)) : V K f kc ks pc lv (.int y :: .int x :: st) := fun H locs ls cells slots a1 a2 a3 a4 a5 => lv_iand X.1 X.2.1 hdg (k H locs ls cells slots a1 a2 a3 a4 a5)
theorem V_ior (X : CX K cc own Ts) {x y : Int32} (hdg : decode cc pc = .ok (.ior, 1)) (k : V K f kc ks (pc + 1) lv (.int (x ||| y) :: st)) : V K f kc ks pc lv (.int y :: .int x :: st) := fun H locs ls cells slots a1 a2 a3 a4 a5 => lv_ior X.1 X.2.1 hdg (k H locs ls cells slots a1 a2 a3 a4 a5)
theorem V_ixor (X : CX K cc own Ts) {x y : Int32} (hdg : decode cc pc = .ok (.ixor, 1)) (k : V K f kc ks (pc + 1) lv (.int (x ^^^ y) :: st)) : V K f kc ks pc lv (.int y :: .int x :: st) := fun H locs ls cells slots a1 a2 a3 a4 a5 => lv_ixor X.1 X.2.1 hdg (k H locs ls cells slots a1 a2 a3 a4 a5)
theorem V_idiv (X : CX K cc own Ts) {x y : Int32} (hne : ¬ y = 0) (hdg : decode cc pc = .ok (.idiv, 1)) (k : V K f kc ks (pc + 1) lv (.int (x / y) :: st)) : V K f kc ks pc lv (.int y :: .int x :: st) := fun H locs ls cells slots a1 a2 a3 a4 a5 => lv_idiv X.1 X.2.1 hdg hne (k H locs ls cells slots a1 a2 a3 a4 a5)
theorem V_irem (X : CX K cc own Ts) {x y : Int32} (hne : ¬ y = 0) (hdg : decode cc pc = .ok (.irem, 1)) (k : V K f kc ks (pc + 1) lv (.int (x - x / y * y) :: st)) : V K f kc ks pc lv (.int y :: .int x :: st) := fun H locs ls cells slots a1 a2 a3 a4 a5 => lv_irem X.1 X.2.1 hdg hne (k H locs ls cells slots a1 a2 a3 a4 a5)
theorem V_ineg (X : CX K cc own Ts) {x : Int32} (hdg : decode cc pc = .ok (.ineg, 1)) (k : V K f kc ks (pc + 1) lv (.int (-x) :: st)) : V K f kc ks pc lv (.int x :: st) := fun H locs ls cells slots a1 a2 a3 a4 a5 => lv_ineg X.1 X.2.1 hdg (k H locs ls cells slots a1 a2 a3 a4 a5)
theorem V_ishl (X : CX K cc own Ts) {x y : Int32} (hdg : decode cc pc = .ok (.ishl, 1)) (k : V K f kc ks (pc + 1) lv (.int (x <<< (y &&& 31)) :: st)) : V K f kc ks pc lv (.int y :: .int x :: st) := fun H locs ls cells slots a1 a2 a3 a4 a5 => lv_ishl X.1 X.2.1 hdg (k H locs ls cells slots a1 a2 a3 a4 a5)
theorem V_ishr (X : CX K cc own Ts) {x y : Int32} (hdg : decode cc pc = .ok (.ishr, 1)) (k : V K f kc ks (pc + 1) lv (.int (x >>> (y &&& 31)) :: st)) : V K f kc ks pc lv (.int y :: .int x :: st) := fun H locs ls cells slots a1 a2 a3 a4 a5 => lv_ishr X.1 X.2.1 hdg (k H locs ls cells slots a1 a2 a3 a4 a5)
theorem V_iushr (X : CX K cc own Ts) {x y v : Int32} (hv : (x.toUInt32 >>> (y.toUInt32 &&& Int32.toUInt32 31)).toInt32 = v) (hdg : decode cc pc = .ok (.iushr, 1)) (k : V K f kc ks (pc + 1) lv (.int v :: st)) : V K f kc ks pc lv (.int y :: .int x :: st) := fun H locs ls cells slots a1 a2 a3 a4 a5 => lv_iushr X.1 X.2.1 hdg hv (k H locs ls cells slots a1 a2 a3 a4 a5)
theorem V_i2l (X : CX K cc own Ts) {x : Int32} (hdg : decode cc pc = .ok (.i2l, 1)) (k : V K f kc ks (pc + 1) lv (.long x.toInt64 :: st)) : V K f kc ks pc lv (.int x :: st) := fun H locs ls cells slots a1 a2 a3 a4 a5 => lv_i2l X.1 X.2.1 hdg rfl (k H locs ls cells slots a1 a2 a3 a4 a5)
theorem V_lcmp (X : CX K cc own Ts) {x y : Int64} (hdg : decode cc pc = .ok (.lcmp, 1)) (k : V K f kc ks (pc + 1) lv (.int (lg_cmp x y) :: st)) : V K f kc ks pc lv (.long y :: .long x :: st) := fun H locs ls cells slots a1 a2 a3 a4 a5 => W.lcmp X.1 X.2.1 hdg (k H locs ls cells slots a1 a2 a3 a4 a5)
theorem V_pop (X : CX K cc own Ts) {a : Value} (ha : a.category = 1) (hdg : decode cc pc = .ok (.pop, 1)) (k : V K f kc ks (pc + 1) lv (st)) : V K f kc ks pc lv (a :: st) := fun H locs ls cells slots a1 a2 a3 a4 a5 => lv_pop X.1 X.2.1 hdg ha (k H locs ls cells slots a1 a2 a3 a4 a5)
theorem V_dup (X : CX K cc own Ts) {a : Value} (ha : a.category = 1) (hdg : decode cc pc = .ok (.dup, 1)) (k : V K f kc ks (pc + 1) lv (a :: a :: st)) : V K f kc ks pc lv (a :: st) := fun H locs ls cells slots a1 a2 a3 a4 a5 => lv_dup X.1 X.2.1 hdg ha (k H locs ls cells slots a1 a2 a3 a4 a5)
theorem V_dup2 (X : CX K cc own Ts) {a b : Value} (ha : a.category = 1) (hb : b.category = 1) (hdg : decode cc pc = .ok (.dup2, 1)) (k : V K f kc ks (pc + 1) lv (a :: b :: a :: b :: st)) : V K f kc ks pc lv (a :: b :: st) := fun H locs ls cells slots a1 a2 a3 a4 a5 => lv_dup2_11 X.1 X.2.1 hdg ha hb (k H locs ls cells slots a1 a2 a3 a4 a5)
theorem V_dup_x1 (X : CX K cc own Ts) {a b : Value} (ha : a.category = 1) (hb : b.category = 1) (hdg : decode cc pc = .ok (.dup_x1, 1)) (k : V K f kc ks (pc + 1) lv (a :: b :: a :: st)) : V K f kc ks pc lv (a :: b :: st) := fun H locs ls cells slots a1 a2 a3 a4 a5 => lv_dup_x1 X.1 X.2.1 hdg ha hb (k H locs ls cells slots a1 a2 a3 a4 a5)
theorem V_goto (X : CX K cc own Ts) {off : Int} {tgt : Nat} (ht : (pc : Int) + off = (tgt : Int)) (hdg : decode cc pc = .ok (.goto off, 3)) (k : V K f kc ks tgt lv st) : V K f kc ks pc lv st := fun H locs ls cells slots a1 a2 a3 a4 a5 => lv_goto X.1 X.2.1 hdg ht (k H locs ls cells slots a1 a2 a3 a4 a5)
theorem V_if_eq (X : CX K cc own Ts) {x : Int32} {off : Int} {tgt : Nat} (ht : (pc : Int) + off = (tgt : Int)) (hdg : decode cc pc = .ok (.ifCond .eq off, 3)) (kt : x = 0 → V K f kc ks tgt lv st) (kf : ¬ x = 0 → V K f kc ks (pc + 3) lv st) : V K f kc ks pc lv (.int x :: st) := fun H locs ls cells slots a1 a2 a3 a4 a5 => lv_if_eq X.1 X.2.1 hdg ht (fun z => kt z H locs ls cells slots a1 a2 a3 a4 a5) (fun z => kf z H locs ls cells slots a1 a2 a3 a4 a5)
theorem V_if_ne (X : CX K cc own Ts) {x : Int32} {off : Int} {tgt : Nat} (ht : (pc : Int) + off = (tgt : Int)) (hdg : decode cc pc = .ok (.ifCond .ne off, 3)) (kt : ¬ x = 0 → V K f kc ks tgt lv st) (kf : x = 0 → V K f kc ks (pc + 3) lv st) : V K f kc ks pc lv (.int x :: st) := fun H locs ls cells slots a1 a2 a3 a4 a5 => lv_if_ne X.1 X.2.1 hdg ht (fun z => kt z H locs ls cells slots a1 a2 a3 a4 a5) (fun z => kf z H locs ls cells slots a1 a2 a3 a4 a5)
theorem V_if_lt (X : CX K cc own Ts) {x : Int32} {off : Int} {tgt : Nat} (ht : (pc : Int) + off = (tgt : Int)) (hdg : decode cc pc = .ok (.ifCond .lt off, 3)) (kt : x < 0 → V K f kc ks tgt lv st) (kf : ¬ x < 0 → V K f kc ks (pc + 3) lv st) : V K f kc ks pc lv (.int x :: st) := fun H locs ls cells slots a1 a2 a3 a4 a5 => lv_if_lt X.1 X.2.1 hdg ht (fun z => kt z H locs ls cells slots a1 a2 a3 a4 a5) (fun z => kf z H locs ls cells slots a1 a2 a3 a4 a5)
theorem V_if_ge (X : CX K cc own Ts) {x : Int32} {off : Int} {tgt : Nat} (ht : (pc : Int) + off = (tgt : Int)) (hdg : decode cc pc = .ok (.ifCond .ge off, 3)) (kt : 0 ≤ x → V K f kc ks tgt lv st) (kf : ¬ 0 ≤ x → V K f kc ks (pc + 3) lv st) : V K f kc ks pc lv (.int x :: st) := fun H locs ls cells slots a1 a2 a3 a4 a5 => lv_if_ge X.1 X.2.1 hdg ht (fun z => kt z H locs ls cells slots a1 a2 a3 a4 a5) (fun z => kf z H locs ls cells slots a1 a2 a3 a4 a5)
theorem V_if_gt (X : CX K cc own Ts) {x : Int32} {off : Int} {tgt : Nat} (ht : (pc : Int) + off = (tgt : Int)) (hdg : decode cc pc = .ok (.ifCond .gt off, 3)) (kt : 0 < x → V K f kc ks tgt lv st) (kf : ¬ 0 < x → V K f kc ks (pc + 3) lv st) : V K f kc ks pc lv (.int x :: st) := fun H locs ls cells slots a1 a2 a3 a4 a5 => lv_if_gt X.1 X.2.1 hdg ht (fun z => kt z H locs ls cells slots a1 a2 a3 a4 a5) (fun z => kf z H locs ls cells slots a1 a2 a3 a4 a5)
theorem V_if_le (X : CX K cc own Ts) {x : Int32} {off : Int} {tgt : Nat} (ht : (pc : Int) + off = (tgt : Int)) (hdg : decode cc pc = .ok (.ifCond .le off, 3)) (kt : x ≤ 0 → V K f kc ks tgt lv st) (kf : ¬ x ≤ 0 → V K f kc ks (pc + 3) lv st) : V K f kc ks pc lv (.int x :: st) := fun H locs ls cells slots a1 a2 a3 a4 a5 => lv_if_le X.1 X.2.1 hdg ht (fun z => kt z H locs ls cells slots a1 a2 a3 a4 a5) (fun z => kf z H locs ls cells slots a1 a2 a3 a4 a5)
theorem V_icmp_eq (X : CX K cc own Ts) {x y : Int32} {off : Int} {tgt : Nat} (ht : (pc : Int) + off = (tgt : Int)) (hdg : decode cc pc = .ok (.if_icmp .eq off, 3)) (kt : x = y → V K f kc ks tgt lv st) (kf : ¬ x = y → V K f kc ks (pc + 3) lv st) : V K f kc ks pc lv (.int y :: .int x :: st) := fun H locs ls cells slots a1 a2 a3 a4 a5 => lv_icmp_eq X.1 X.2.1 hdg ht (fun z => kt z H locs ls cells slots a1 a2 a3 a4 a5) (fun z => kf z H locs ls cells slots a1 a2 a3 a4 a5)
theorem V_icmp_ne (X : CX K cc own Ts) {x y : Int32} {off : Int} {tgt : Nat} (ht : (pc : Int) + off = (tgt : Int)) (hdg : decode cc pc = .ok (.if_icmp .ne off, 3)) (kt : ¬ x = y → V K f kc ks tgt lv st) (kf : x = y → V K f kc ks (pc + 3) lv st) : V K f kc ks pc lv (.int y :: .int x :: st) := fun H locs ls cells slots a1 a2 a3 a4 a5 => lv_icmp_ne X.1 X.2.1 hdg ht (fun z => kt z H locs ls cells slots a1 a2 a3 a4 a5) (fun z => kf z H locs ls cells slots a1 a2 a3 a4 a5)
theorem V_icmp_lt (X : CX K cc own Ts) {x y : Int32} {off : Int} {tgt : Nat} (ht : (pc : Int) + off = (tgt : Int)) (hdg : decode cc pc = .ok (.if_icmp .lt off, 3)) (kt : x < y → V K f kc ks tgt lv st) (kf : ¬ x < y → V K f kc ks (pc + 3) lv st) : V K f kc ks pc lv (.int y :: .int x :: st) := fun H locs ls cells slots a1 a2 a3 a4 a5 => lv_icmp_lt X.1 X.2.1 hdg ht (fun z => kt z H locs ls cells slots a1 a2 a3 a4 a5) (fun z => kf z H locs ls cells slots a1 a2 a3 a4 a5)
theorem V_icmp_ge (X : CX K cc own Ts) {x y : Int32} {off : Int} {tgt : Nat} (ht : (pc : Int) + off = (tgt : Int)) (hdg : decode cc pc = .ok (.if_icmp .ge off, 3)) (kt : y ≤ x → V K f kc ks tgt lv st) (kf : ¬ y ≤ x → V K f kc ks (pc + 3) lv st) : V K f kc ks pc lv (.int y :: .int x :: st) := fun H locs ls cells slots a1 a2 a3 a4 a5 => lv_icmp_ge X.1 X.2.1 hdg ht (fun z => kt z H locs ls cells slots a1 a2 a3 a4 a5) (fun z => kf z H locs ls cells slots a1 a2 a3 a4 a5)
theorem V_icmp_gt (X : CX K cc own Ts) {x y : Int32} {off : Int} {tgt : Nat} (ht : (pc : Int) + off = (tgt : Int)) (hdg : decode cc pc = .ok (.if_icmp .gt off, 3)) (kt : y < x → V K f kc ks tgt lv st) (kf : ¬ y < x → V K f kc ks (pc + 3) lv st) : V K f kc ks pc lv (.int y :: .int x :: st) := fun H locs ls cells slots a1 a2 a3 a4 a5 => lv_icmp_gt X.1 X.2.1 hdg ht (fun z => kt z H locs ls cells slots a1 a2 a3 a4 a5) (fun z => kf z H locs ls cells slots a1 a2 a3 a4 a5)
theorem V_icmp_le (X : CX K cc own Ts) {x y : Int32} {off : Int} {tgt : Nat} (ht : (pc : Int) + off = (tgt : Int)) (hdg : decode cc pc = .ok (.if_icmp .le off, 3)) (kt : x ≤ y → V K f kc ks tgt lv st) (kf : ¬ x ≤ y → V K f kc ks (pc + 3) lv st) : V K f kc ks pc lv (.int y :: .int x :: st) := fun H locs ls cells slots a1 a2 a3 a4 a5 => lv_icmp_le X.1 X.2.1 hdg ht (fun z => kt z H locs ls cells slots a1 a2 a3 a4 a5) (fun z => kf z H locs ls cells slots a1 a2 a3 a4 a5)
theorem V_ifnull (X : CX K cc own Ts) {x : Nat} {off : Int} (hdg : decode cc pc = .ok (.ifnull off, 3)) (k : V K f kc ks (pc + 3) lv st) : V K f kc ks pc lv (.ref x :: st) := fun H locs ls cells slots a1 a2 a3 a4 a5 => lv_ifnull X.1 X.2.1 hdg (k H locs ls cells slots a1 a2 a3 a4 a5)
theorem V_ifnullN (X : CX K cc own Ts) {off : Int} {tgt : Nat} (ht : (pc : Int) + off = (tgt : Int)) (hdg : decode cc pc = .ok (.ifnull off, 3)) (k : V K f kc ks tgt lv st) : V K f kc ks pc lv (.null :: st) := fun H locs ls cells slots a1 a2 a3 a4 a5 => lv_ifnullN X.1 X.2.1 hdg ht (k H locs ls cells slots a1 a2 a3 a4 a5)
theorem V_ifnonnull (X : CX K cc own Ts) {x : Nat} {off : Int} {tgt : Nat} (ht : (pc : Int) + off = (tgt : Int)) (hdg : decode cc pc = .ok (.ifnonnull off, 3)) (k : V K f kc ks tgt lv st) : V K f kc ks pc lv (.ref x :: st) := fun H locs ls cells slots a1 a2 a3 a4 a5 => lv_ifnonnull X.1 X.2.1 hdg ht (k H locs ls cells slots a1 a2 a3 a4 a5)
theorem V_ifnonnullN (X : CX K cc own Ts) {off : Int} (hdg : decode cc pc = .ok (.ifnonnull off, 3)) (k : V K f kc ks (pc + 3) lv st) : V K f kc ks pc lv (.null :: st) := fun H locs ls cells slots a1 a2 a3 a4 a5 => lv_ifnonnullN X.1 X.2.1 hdg (k H locs ls cells slots a1 a2 a3 a4 a5)
theorem V_acmp_eq (X : CX K cc own Ts) {x y : Nat} {off : Int} {tgt : Nat} (ht : (pc : Int) + off = (tgt : Int)) (hdg : decode cc pc = .ok (.if_acmp .eq off, 3)) (kt : x = y → V K f kc ks tgt lv st) (kf : ¬ x = y → V K f kc ks (pc + 3) lv st) : V K f kc ks pc lv (.ref y :: .ref x :: st) := fun H locs ls cells slots a1 a2 a3 a4 a5 => lv_acmp_eq (rx := some x) (ry := some y) X.1 X.2.1 hdg ht (fun z => kt (Option.some.inj z) H locs ls cells slots a1 a2 a3 a4 a5) (fun z => kf (fun z2 => z (congrArg some z2)) H locs ls cells slots a1 a2 a3 a4 a5)
theorem V_acmp_ne (X : CX K cc own Ts) {x y : Nat} {off : Int} {tgt : Nat} (ht : (pc : Int) + off = (tgt : Int)) (hdg : decode cc pc = .ok (.if_acmp .ne off, 3)) (kt : ¬ x = y → V K f kc ks tgt lv st) (kf : x = y → V K f kc ks (pc + 3) lv st) : V K f kc ks pc lv (.ref y :: .ref x :: st) := fun H locs ls cells slots a1 a2 a3 a4 a5 => lv_acmp_ne (rx := some x) (ry := some y) X.1 X.2.1 hdg ht (fun z => kt (fun z2 => z (congrArg some z2)) H locs ls cells slots a1 a2 a3 a4 a5) (fun z => kf (Option.some.inj z) H locs ls cells slots a1 a2 a3 a4 a5)
theorem V_ldc (X : CX K cc own Ts) {i : Nat} {v : Int32} (hc : Jvm.Cond.constant own i v ∈ Ts) (hdg : decode cc pc = .ok (.ldc i, 2)) (k : V K f kc ks (pc + 2) lv (.int v :: st)) : V K f kc ks pc lv st := fun H locs ls cells slots a1 a2 a3 a4 a5 => lv_ldc X.1 X.2.1 X.2.2.2.1 (X.2.2.2.2.1 _ hc) hdg (k H locs ls cells slots a1 a2 a3 a4 a5)
theorem V_tableIn (X : CX K cc own Ts) {dflt lo hi : Int} {offs : Array Int} {len : Nat} {x : Int32} {off : Int} {tgt : Nat} (hdg : decode cc pc = .ok (.tableswitch dflt lo hi offs, len)) (h1 : ¬ x.toInt < lo) (h2 : ¬ hi < x.toInt) (ho : offs[(x.toInt - lo).toNat]? = some off) (ht : (pc : Int) + off = (tgt : Int)) (k : V K f kc ks tgt lv st) : V K f kc ks pc lv (.int x :: st) := fun H locs ls cells slots a1 a2 a3 a4 a5 => lv_tableIn X.1 X.2.1 hdg h1 h2 ho ht (k H locs ls cells slots a1 a2 a3 a4 a5)
theorem V_tableOut (X : CX K cc own Ts) {dflt lo hi : Int} {offs : Array Int} {len : Nat} {x : Int32} {tgt : Nat} (hdg : decode cc pc = .ok (.tableswitch dflt lo hi offs, len)) (h : x.toInt < lo ∨ hi < x.toInt) (ht : (pc : Int) + dflt = (tgt : Int)) (k : V K f kc ks tgt lv st) : V K f kc ks pc lv (.int x :: st) := fun H locs ls cells slots a1 a2 a3 a4 a5 => lv_tableOut X.1 X.2.1 hdg h ht (k H locs ls cells slots a1 a2 a3 a4 a5)
