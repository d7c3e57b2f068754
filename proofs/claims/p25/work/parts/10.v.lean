/-! ===== worlds as partial functions, one frame for all, and the judgement V ===== -/
abbrev Tg : Type := Nat × Nat
abbrev Wo : Type := Nat → Option (Tg × va_E)
def w_up (f : Wo) (a : Nat) (t : Tg) (e : va_E) : Wo := fun b => if b = a then some (t, e) else f b
theorem w_up_self (f : Wo) (a : Nat) (t : Tg) (e : va_E) : w_up f a t e a = some (t, e) := if_pos rfl
theorem w_up_ne (f : Wo) {a b : Nat} (t : Tg) (e : va_E) (h : b ≠ a) : w_up f a t e b = f b := if_neg h
/-- two addresses that hold different things are different -/
theorem w_ne {f : Wo} {a b : Nat} {x y : Tg × va_E} (ha : f a = some x) (hb : f b = some y) (h : x ≠ y) : b ≠ a := fun e => h (by subst e; exact Option.some.inj (ha.symm.trans hb))
theorem w_neT {f : Wo} {a b : Nat} {t u : Tg} {x y : va_E} (ha : f a = some (t, x)) (hb : f b = some (u, y)) (h : t ≠ u) : b ≠ a := w_ne ha hb (fun e => h (congrArg Prod.fst e))
theorem w_neN {f : Wo} {a q : Nat} {x : Tg × va_E} (ha : f a = some x) (hq : f q = none) : a ≠ q := fun e => by subst e; rw [ha] at hq; cases hq
abbrev GG : Type := va_G × (Nat → Nat)
def gN (G : GG) : Nat := G.2 0
def gE (G : GG) : Nat := G.2 1
def gI (G : GG) : Nat := G.2 2
def gZ (G : GG) : Nat := G.2 3
def gJ (G : GG) : Nat := G.2 4
def gO (G : GG) : Nat := G.2 5
def gM (G : GG) : Nat := G.2 6
def gA (G : GG) : Nat → Prop := fun q => gN G ≤ q
def gT (G : GG) : List (ClassId × FieldType) := [(gI G, .int), (gI G, .int), (gJ G, .long), (gO G, .object "java/lang/Object")]
/-- a cell; the shared array of no elements (tag 99) is known by its class and its length only -/
def w_at (G : GG) (t : Tg) (a : Nat) (e : va_E) (H : Heap) : Prop := va_at G.1 vwCl (a, e) H ∨ (t.1 = 99 ∧ (∃ g : Nat → Option Nat, e = .inl (gO G, 0, .inr (.inr (.inr (.inr g))))) ∧ ∃ cell : Cell, H[a]? = some cell ∧ cell.cls = gO G ∧ cell.slots.size.toInt32 = 0 ∧ cell.vm ≠ .unknown ∧ ∀ k, cell.vm ≠ .statics k)
theorem w_at.kept {G : GG} {t : Tg} {a : Nat} {e : va_E} {H H1 : Heap} (h : w_at G t a e H) (hq : H1[a]? = H[a]?) : w_at G t a e H1 := by
  rcases h with h | ⟨h1, h2, cell, h3, h4⟩
  · exact Or.inl (h.kept hq)
  · exact Or.inr ⟨h1, h2, cell, hq.trans h3, h4⟩
theorem w_at.lt {G : GG} {t : Tg} {a : Nat} {e : va_E} {H : Heap} (h : w_at G t a e H) : a < H.size := by
  rcases h with h | ⟨-, -, cell, h3, -⟩
  · exact va_at.lt h
  · exact (Array.getElem?_eq_some_iff.mp h3).1
def w_H (G : GG) (f : Wo) (H : Heap) : Prop := ∀ (a : Nat) (t : Tg) (e : va_E), f a = some (t, e) → w_at G t a e H ∧ (t.1 = 99 ∨ gN G ≤ a)
theorem w_H.lt {G : GG} {f : Wo} {H : Heap} (h : w_H G f H) {a : Nat} {t : Tg} {e : va_E} (ha : f a = some (t, e)) : a < H.size := (h a t e ha).1.lt
def w_k : va_E → Nat
  | .inr _ => 0
  | .inl (_, _, .inl _) => 1
  | .inl (_, _, .inr (.inl _)) => 2
  | .inl (_, _, .inr (.inr (.inl _))) => 3
  | .inl (_, _, .inr (.inr (.inr (.inl _)))) => 4
  | .inl (_, _, .inr (.inr (.inr (.inr _)))) => 5
def w_n : va_E → Nat
  | .inr _ => 0
  | .inl (_, n, _) => n
theorem w_nk {c : ClassId} {e : va_E} (hk : w_k e ≠ 5) (g : Nat → Option Nat) : e ≠ .inl (c, 0, .inr (.inr (.inr (.inr g)))) := fun h => hk (by rw [h]; rfl)
theorem w_H.at {G : GG} {f : Wo} {H : Heap} (h : w_H G f H) {a : Nat} {t : Tg} {e : va_E} (ha : f a = some (t, e)) (hne : ∀ g : Nat → Option Nat, e ≠ .inl (gO G, 0, .inr (.inr (.inr (.inr g))))) : va_at G.1 vwCl (a, e) H := (h a t e ha).1.resolve_right (fun q => q.2.1.elim hne)
theorem w_H.atT {G : GG} {f : Wo} {H : Heap} (h : w_H G f H) {a : Nat} {t : Tg} {e : va_E} (ha : f a = some (t, e)) (ht : t.1 ≠ 99) : va_at G.1 vwCl (a, e) H := (h a t e ha).1.resolve_right (fun q => ht q.1)
theorem w_H.P {G : GG} {f : Wo} {H : Heap} (h : w_H G f H) {a : Nat} {t : Tg} {e : va_E} (ha : f a = some (t, e)) (hne : ∀ g : Nat → Option Nat, e ≠ .inl (gO G, 0, .inr (.inr (.inr (.inr g))))) : va_P G.1 vwCl [(a, e)] H := fun k q hk => by
  have hz : k < 1 := (List.getElem?_eq_some_iff.mp hk).1
  rw [show k = 0 by omega] at hk
  cases hk
  exact h.at ha hne
theorem w_H.own {G : GG} {f : Wo} {H : Heap} (h : w_H G f H) {a : Nat} {t : Tg} {e : va_E} (ha : f a = some (t, e)) (ht : t.1 ≠ 99) : gA G a := (h a t e ha).2.resolve_left ht
theorem w_H.put {G : GG} {f : Wo} {H H1 : Heap} (h : w_H G f H) {a : Nat} {t : Tg} {e : va_E} (hn : gN G ≤ a) (he : va_at G.1 vwCl (a, e) H1) (oq : ∀ q : Nat, q ≠ a → H1[q]? = H[q]?) : w_H G (w_up f a t e) H1 := by
  intro b u x hb
  by_cases hba : b = a
  · subst hba
    rw [w_up_self] at hb
    cases hb
    exact ⟨Or.inl he, Or.inr hn⟩
  · rw [w_up_ne _ _ _ hba] at hb
    exact ⟨(h b u x hb).1.kept (oq b hba), (h b u x hb).2⟩
theorem w_H.new {G : GG} {f : Wo} {H H1 : Heap} (h : w_H G f H) {t : Tg} {e : va_E} (hn : gN G ≤ H.size) (he : va_at G.1 vwCl (H.size, e) H1) (oq : ∀ q : Nat, q < H.size → H1[q]? = H[q]?) : w_H G (w_up f H.size t e) H1 ∧ f H.size = none := by
  refine ⟨?_, ?_⟩
  · intro b u x hb
    by_cases hba : b = H.size
    · subst hba
      rw [w_up_self] at hb
      cases hb
      exact ⟨Or.inl he, Or.inr hn⟩
    · rw [w_up_ne _ _ _ hba] at hb
      exact ⟨(h b u x hb).1.kept (oq b (h.lt hb)), (h b u x hb).2⟩
  · cases hf : f H.size with
    | none => rfl
    | some y => exact absurd (h.lt (a := H.size) (t := y.1) (e := y.2) hf) (Nat.lt_irrefl _)
/-- locals: a list of places and values -/
def lk : List (Nat × Value) → Nat → Option Value
  | [], _ => none
  | q :: t, i => bif Nat.beq q.1 i then some q.2 else lk t i
def rmv : List (Nat × Value) → Nat → List (Nat × Value)
  | [], _ => []
  | q :: t, i => bif Nat.beq q.1 i then rmv t i else q :: rmv t i
def lh (ls : Array Slot) (nL : Nat) (lv : List (Nat × Value)) : Prop := lv_has ls nL lv ∧ ∀ q ∈ lv, q.2.category = 1
theorem lk_mem : ∀ (lv : List (Nat × Value)) (i : Nat) (v : Value), lk lv i = some v → (i, v) ∈ lv
  | [], _, _, h => by cases h
  | q :: t, i, v, h => by
    unfold lk at h
    cases hq : Nat.beq q.1 i with
    | true =>
      rw [hq] at h
      have h2 : q.2 = v := Option.some.inj h
      have h1 : q.1 = i := Nat.eq_of_beq_eq_true hq
      subst h1; subst h2
      exact List.mem_cons_self
    | false =>
      rw [hq] at h
      exact List.mem_cons_of_mem _ (lk_mem t i v h)
theorem rmv_eq : ∀ (lv : List (Nat × Value)) (i : Nat), (∀ q ∈ lv, q.2.category = 1) → lv.filter (fun q => !(q.1 == i) && !(q.1 + 1 == i && q.2.category == 2)) = rmv lv i
  | [], _, _ => rfl
  | q :: t, i, h => by
    have ht := rmv_eq t i (fun x hx => h x (List.mem_cons_of_mem _ hx))
    have hc := h q List.mem_cons_self
    unfold rmv
    cases hq : Nat.beq q.1 i with
    | true =>
      have h1 : q.1 = i := Nat.eq_of_beq_eq_true hq
      rw [List.filter_cons_of_neg (by simp [h1])]
      exact ht
    | false =>
      have h1 : q.1 ≠ i := Nat.ne_of_beq_eq_false hq
      rw [List.filter_cons_of_pos (by simp [h1, hc])]
      exact congrArg (q :: ·) ht
theorem rmv_mem {lv : List (Nat × Value)} {i : Nat} (h : ∀ q ∈ lv, q.2.category = 1) : ∀ q ∈ rmv lv i, q.2.category = 1 := by
  rw [← rmv_eq lv i h]
  exact fun q hq => h q (List.mem_filter.mp hq).1
theorem lh.at {ls : Array Slot} {nL : Nat} {lv : List (Nat × Value)} (h : lh ls nL lv) {i : Nat} {v : Value} (hk : lk lv i = some v) : ls[i]? = some (.val v) := h.1.2.2 (i, v) (lk_mem lv i v hk)
theorem lh.sub {ls : Array Slot} {nL : Nat} {lv lv' : List (Nat × Value)} (h : lh ls nL lv) (hs : lv'.map (fun q => lk lv q.1) = lv'.map (fun q => some q.2)) : lh ls nL lv' := by
  have hm : ∀ q ∈ lv', lk lv q.1 = some q.2 := List.map_inj_left.mp hs
  exact ⟨⟨h.1.1, h.1.2.1, fun q hq => h.at (hm q hq)⟩, fun q hq => h.2 _ (lk_mem _ _ _ (hm q hq))⟩
/-- the words of the throws that calls don't keep by themselves, and the casts to Object -/
def xCn (ic : Nat) (X : String) : List Cond := (vx_atS RX5 ic X ["java/lang/RuntimeException", "java/lang/Exception"]).filter (fun w => !goodWord w)
def xC : List Cond := xCn 37 "java/lang/IllegalArgumentException" ++ (xCn 48 "java/lang/IllegalStateException" ++ (xCn 204 "java/lang/IndexOutOfBoundsException" ++ [.castable RX3 "java/lang/Object", .castable RX2 "java/lang/Object", .castable RX1 "java/lang/Object"]))
def isCD : Cond → Bool
  | .castable _ _ => true
  | .declares _ => true
  | _ => false
theorem xC_cd : ∀ w ∈ xC, isCD w = true := by decide +kernel
theorem va_Nw.cd {w : Cond} (hw : isCD w = true) {u U : State} (hvm : u.vm.Alike U.vm) (h : va_Nw w u) : va_Nw w U := by
  cases w with
  | castable C T => exact va_tabs rfl (rfl : (u.setVm U.vm).vm = U.vm) (by rw [Cond.castable_setVm hvm]; exact h)
  | declares x => exact va_tabs rfl (rfl : (u.setVm U.vm).vm = U.vm) (by rw [Cond.declares_setVm hvm]; exact h)
  | _ => simp [isCD] at hw
def xS : List (Nat × String) := [(35, "rating or roles out of range"), (46, "no more players"), (64, "no party of one to three players"), (70, "these players may not queue"), (168, "the match does not go on"), (188, "minutes out of range"), (191, "the clock would be too high"), (202, "no such player"), (205, "no such party"), (207, "the party does not queue"), (209, "no such match"), (214, "the match does not wait for this player"), (216, "no such team")]
/-- the tables' and the statics' facts -/
def KK0 (G : GG) (U : State) (H : Heap) : Prop := gN G ≤ H.size ∧ va_K G.1 vwCl (gT G) U ∧ va_Z "java/util/ArrayList" "DEFAULTCAPACITY_EMPTY_ELEMENTDATA" "[Ljava/lang/Object;" (.ref (gE G)) (gA G) U H ∧ vx_Zq Bundle.tN "UNASSIGNED_STACK" Bundle.steD (gA G) U H ∧ vx_Zq Bundle.tN "SUPPRESSED_SENTINEL" Bundle.listD (gA G) U H ∧ va_Mi "[Ljava/lang/Object;" (gM G) U ∧ va_Dc U ∧ va_AO "java/lang/Object" U ∧ (∀ w ∈ xC, va_Nw w U) ∧ va_Nw (.methodLinkNest RX1 46 yX5_has "LobbyMaker") U ∧ (∀ q ∈ xS, vk_R RX5 q.1 q.2 (G.2 (100 + q.1)) U)
theorem KK0.moved {G : GG} {u U : State} {H : Heap} (hW : u.WarmedH U.vm) (h : KK0 G u H) : KK0 G U H := ⟨h.1, va_K.moved hW.alike h.2.1, va_Z.moved hW.alike h.2.2.1, vx_Zq.moved hW.alike h.2.2.2.1, vx_Zq.moved hW.alike h.2.2.2.2.1, va_Mi.moved hW.alike h.2.2.2.2.2.1, va_Dc.moved hW.alike h.2.2.2.2.2.2.1, va_AO.moved hW.alike h.2.2.2.2.2.2.2.1, fun w hw => va_Nw.cd (xC_cd w hw) hW.alike (h.2.2.2.2.2.2.2.2.1 w hw), va_Nw.warmM hW h.2.2.2.2.2.2.2.2.2.1, fun q hq => vk_R.warm hW (h.2.2.2.2.2.2.2.2.2.2 q hq)⟩
theorem KK0.kept {G : GG} {u : State} {H0 H : Heap} {locs : List Loc} (h : KK0 G u H0) (hS : va_S (gA G) H0 H locs) : KK0 G u H := ⟨Nat.le_trans h.1 hS.1, h.2.1, h.2.2.1.kept hS.2.1, h.2.2.2.1.kept hS.2.1, h.2.2.2.2.1.kept hS.2.1, h.2.2.2.2.2⟩
/-- what a catch needs -/
def cfW : List Cond := [.castable "java/lang/IllegalStateException" "java/lang/IllegalStateException", .castable "java/lang/IndexOutOfBoundsException" "java/lang/IndexOutOfBoundsException"]
def cfN : List (String × String) := [("java/lang/IllegalStateException", "java/lang/IndexOutOfBoundsException")]
def CF (U : State) : Prop := (∀ w ∈ cfW, va_Nw w U) ∧ ∀ q ∈ cfN, va_Nc q.1 q.2 U
theorem cfW_cd : ∀ w ∈ cfW, isCD w = true := by decide +kernel
theorem CF.moved {u U : State} (hvm : u.vm.Alike U.vm) (h : CF u) : CF U := ⟨fun w hw => va_Nw.cd (cfW_cd w hw) hvm (h.1 w hw), fun q hq => (h.2 q hq).moved hvm⟩
/-- the script: its address, its length, its numbers -/
def gB (G : GG) : Nat := G.2 7
def gL (G : GG) : Nat := G.2 8
def gX (G : GG) (i : Nat) : Int32 := (UInt32.ofNat (G.2 (1000 + i))).toInt32
def SCR (G : GG) (U : State) (H : Heap) : Prop := gB G < gN G ∧ gL G ≤ 260 ∧ va_X (gB G) (gL G) (gX G) U H
theorem SCR.moved {G : GG} {u U : State} {H : Heap} (hvm : u.vm.Alike U.vm) (h : SCR G u H) : SCR G U H := ⟨h.1, h.2.1, va_X.moved hvm h.2.2⟩
theorem SCR.kept {G : GG} {u : State} {H0 H : Heap} {locs : List Loc} (hn : gN G ≤ H0.size) (h : SCR G u H0) (hS : va_S (gA G) H0 H locs) : SCR G u H := ⟨h.1, h.2.1, h.2.2.kept (hS.2.1 _ (Nat.lt_of_lt_of_le h.1 hn) (fun q => absurd h.1 (Nat.not_lt.mpr q)))⟩
def KK (G : GG) (U : State) (H : Heap) : Prop := KK0 G U H ∧ CF U ∧ SCR G U H
theorem KK.moved {G : GG} {u U : State} {H : Heap} (hW : u.WarmedH U.vm) (h : KK G u H) : KK G U H := ⟨h.1.moved hW, h.2.1.moved hW.alike, h.2.2.moved hW.alike⟩
theorem KK.kept {G : GG} {u : State} {H0 H : Heap} {locs : List Loc} (h : KK G u H0) (hS : va_S (gA G) H0 H locs) : KK G u H := ⟨h.1.kept hS, h.2.1, h.2.2.kept h.1.1 hS⟩
/-- contracts: as: the arguments; f: the world; post: answer and world behind it -/
def CP (G : GG) (as : List Value) (f : Wo) : Array Value → State → Prop := va_Pc as (fun U => KK G U U.heap ∧ w_H G f U.heap)
def CQ (G : GG) (post : Option Value → Wo → Prop) : Array Value → State → Outcome → State → Prop := fun _ st oc t => (∃ (r : Option Value) (f' : Wo), oc = .returned r ∧ post r f' ∧ w_H G f' t.heap) ∧ va_F (gA G) st t
def CT (G : GG) (px : String → Wo → Prop) : String → State → State → Prop := fun E st t => (∃ f' : Wo, px E f' ∧ w_H G f' t.heap) ∧ va_F (gA G) st t
def rmk (fr lo mc ms : Nat) : Room := { frames := fr, cells := mc, slots := ms, locals := lo }
def Ct (l : Launch) (y : MethodName) (ws : List Cond) (fr lo : Nat) (G : GG) (as : List Value) (f : Wo) (post : Option Value → Wo → Prop) (mc ms : Nat) : Prop := Met l y ws (rmk fr lo mc ms) (CP G as f) (CQ G post) mc ms (gA G)
def Cx (l : Launch) (y : MethodName) (ws : List Cond) (fr lo : Nat) (G : GG) (as : List Value) (f : Wo) (post : Option Value → Wo → Prop) (px : String → Wo → Prop) (mc ms : Nat) : Prop := vx_Met l y ws (rmk fr lo mc ms) (CP G as f) (CQ G post) (CT G px) mc ms (gA G)
theorem CP.blind {G : GG} {as : List Value} {f : Wo} : FrameBlind (CP G as f) := fun a U g mk q => ⟨q.1, KK.moved (u := U) (U := U.calling g mk a) (State.WarmedH.refl U) q.2.1, q.2.2⟩
/-- a method's run: the machine, the frame, the ghosts, locals, room, what is owed -/
abbrev VK : Type := (Program × Launch × Env × Room × State) × (MethodId × Array Value × List Frame × Method × Code) × (GG × Nat × Nat × Nat × (State → Prop))
def kP (K : VK) : Program := K.1.1
def kL (K : VK) : Launch := K.1.2.1
def kE (K : VK) : Env := K.1.2.2.1
def kR (K : VK) : Room := K.1.2.2.2.1
def kS (K : VK) : State := K.1.2.2.2.2
def kM (K : VK) : MethodId := K.2.1.1
def kA (K : VK) : Array Value := K.2.1.2.1
def kB (K : VK) : List Frame := K.2.1.2.2.1
def kY (K : VK) : Method := K.2.1.2.2.2.1
def kC (K : VK) : Code := K.2.1.2.2.2.2
def kG (K : VK) : GG := K.2.2.1
def kN (K : VK) : Nat := K.2.2.2.1
def kmc (K : VK) : Nat := K.2.2.2.2.1
def kms (K : VK) : Nat := K.2.2.2.2.2.1
def kQ (K : VK) : State → Prop := K.2.2.2.2.2.2
abbrev WK (K : VK) (H : Heap) (locs : List Loc) (cells slots : Nat) (g : JFrame) : Prop := W (kP K) (kL K) (kE K) (kR K) (kS K) (kM K) (kA K) (kB K) (kY K) (kC K) H locs cells slots (kQ K) g
def V (K : VK) (f : Wo) (kc ks pc : Nat) (lv : List (Nat × Value)) (st : List Value) : Prop :=
  ∀ (H : Heap) (locs : List Loc) (ls : Array Slot) (cells slots : Nat), w_H (kG K) f H → va_S (gA (kG K)) (kS K).heap H locs → lh ls (kN K) lv → cells + kc ≤ kmc K → slots + ks ≤ kms K → WK K H locs cells slots (F0 (kM K) pc ls st)
/-- q is thrown at pc -/
def VX (K : VK) (f : Wo) (kc ks pc : Nat) (lv : List (Nat × Value)) (E : String) : Prop :=
  ∀ (H : Heap) (locs : List Loc) (ls : Array Slot) (cells slots : Nat) (st : List Value) (q : Addr) (ce : Cell), w_H (kG K) f H → va_S (gA (kG K)) (kS K).heap H locs → lh ls (kN K) lv → cells + kc ≤ kmc K → slots + ks ≤ kms K → H[q]? = some ce → ce.vm = .none → (kS K).vm.findClass E = some ce.cls → vx_W (kP K) (kL K) (kE K) (kR K) (kS K) (kM K) (kA K) (kB K) (kY K) (kC K) H locs cells slots (kQ K) (F0 (kM K) pc ls st) q
def CX (K : VK) (cc : ByteArray) (own : String) (Ts : List Cond) (nL fr lo : Nat) : Prop :=
  (kP K).tables.exec = Jvm.exec ∧ (kC K).code = cc ∧ (kC K).maxLocals = kN K ∧ (kS K).vm.findClass own = some (kM K).cls ∧ (∀ w ∈ Ts, w.before (kA K) (kS K) = true) ∧ KK (kG K) (kS K) (kS K).heap ∧ (kY K).locks = false ∧ kR K = rmk fr lo (kmc K) (kms K) ∧ kN K = nL
/-- what a return owes -/
def RQ (K : VK) (ret : Option FieldType) (post : Option Value → Wo → Prop) : Prop := (kY K).sig.returnType = ret ∧ ∀ (H : Heap) (locs : List Loc) (cells slots : Nat) (g : JFrame), W (kP K) (kL K) (kE K) (kR K) (kS K) (kM K) (kA K) (kB K) (kY K) (kC K) H locs cells slots (MQ (kB K) (CQ (kG K) post) (kA K) (kS K) (kmc K) (kms K) (gA (kG K))) g → WK K H locs cells slots g
/-- what a throw owes -/
def TQ (K : VK) (px : String → Wo → Prop) : Prop := (∀ x ∈ (kC K).exceptionTable.toList, False) ∧ ∃ Qc, kQ K = vx_MQ (kB K) Qc (CT (kG K) px) (kA K) (kS K) (kmc K) (kms K) (gA (kG K))
theorem CX.hts {K : VK} {cc : ByteArray} {own : String} {Ts : List Cond} {nL fr lo : Nat} (X : CX K cc own Ts nL fr lo) : ∀ w ∈ Ts, w.before (kA K) (kS K) = true := X.2.2.2.2.1
theorem CX.kk {K : VK} {cc : ByteArray} {own : String} {Ts : List Cond} {nL fr lo : Nat} (X : CX K cc own Ts nL fr lo) : KK0 (kG K) (kS K) (kS K).heap := X.2.2.2.2.2.1.1
theorem CX.kK {K : VK} {cc : ByteArray} {own : String} {Ts : List Cond} {nL fr lo : Nat} (X : CX K cc own Ts nL fr lo) : KK (kG K) (kS K) (kS K).heap := X.2.2.2.2.2.1
theorem CX.lk {K : VK} {cc : ByteArray} {own : String} {Ts : List Cond} {nL fr lo : Nat} (X : CX K cc own Ts nL fr lo) : (kY K).locks = false := X.2.2.2.2.2.2.1
theorem CX.rm {K : VK} {cc : ByteArray} {own : String} {Ts : List Cond} {nL fr lo : Nat} (X : CX K cc own Ts nL fr lo) : kR K = rmk fr lo (kmc K) (kms K) := X.2.2.2.2.2.2.2.1
theorem CX.nL {K : VK} {cc : ByteArray} {own : String} {Ts : List Cond} {nL fr lo : Nat} (X : CX K cc own Ts nL fr lo) : kN K = nL := X.2.2.2.2.2.2.2.2
theorem CX.own {K : VK} {cc : ByteArray} {own : String} {Ts : List Cond} {nL fr lo : Nat} (X : CX K cc own Ts nL fr lo) : (kS K).vm.findClass own = some (kM K).cls := X.2.2.2.1
theorem CX.fix {K : VK} {cc : ByteArray} {own : String} {Ts : List Cond} {nL fr lo : Nat} (X : CX K cc own Ts nL fr lo) : CallFix (kP K) (kM K) (kC K) cc (kN K) (kS K) (kA K) Ts own := ⟨X.1, X.2.1, X.2.2.1, X.own, X.hts⟩
section VR
variable {K : VK} {cc : ByteArray} {own : String} {Ts : List Cond} {nL fr lo : Nat} {f : Wo} {kc ks pc : Nat} {lv lv' : List (Nat × Value)} {st : List Value} {ret : Option FieldType} {post : Option Value → Wo → Prop}
theorem V.lvs (hs : lv'.map (fun q => lk lv q.1) = lv'.map (fun q => some q.2)) (k : V K f kc ks pc lv' st) : V K f kc ks pc lv st := fun H locs ls cells slots h1 h2 h3 h4 h5 => k H locs ls cells slots h1 h2 (h3.sub hs) h4 h5
theorem V.bud {kc' ks' : Nat} (h1 : kc' ≤ kc) (h2 : ks' ≤ ks) (k : V K f kc' ks' pc lv st) : V K f kc ks pc lv st := fun H locs ls cells slots a1 a2 a3 a4 a5 => k H locs ls cells slots a1 a2 a3 (by omega) (by omega)
theorem V.sub {f' : Wo} (h : ∀ a t e, f' a = some (t, e) → f a = some (t, e)) (k : V K f' kc ks pc lv st) : V K f kc ks pc lv st := fun H locs ls cells slots a1 a2 a3 a4 a5 => k H locs ls cells slots (fun a t e he => a1 a t e (h a t e he)) a2 a3 a4 a5
theorem V.stk {st' : List Value} (h : st = st') (k : V K f kc ks pc lv st') : V K f kc ks pc lv st := h ▸ k
theorem V.top {x y : Int32} (h : x = y) (k : V K f kc ks pc lv (.int y :: st)) : V K f kc ks pc lv (.int x :: st) := h ▸ k
theorem V.pcq {pc' : Nat} (h : pc = pc') (k : V K f kc ks pc' lv st) : V K f kc ks pc lv st := h ▸ k

theorem V_iconst (X : CX K cc own Ts nL fr lo) {n : Int} {v : Int32} (hv : Int32.ofInt n = v) (hdg : decode cc pc = .ok (.iconst n, 1)) (k : V K f kc ks (pc + 1) lv (.int v :: st)) : V K f kc ks pc lv (st) := fun H locs ls cells slots a1 a2 a3 a4 a5 => lv_iconst X.1 X.2.1 hdg hv (k H locs ls cells slots a1 a2 a3 a4 a5)
theorem V_bipush (X : CX K cc own Ts nL fr lo) {n : Int} {v : Int32} (hv : (Int8.ofInt n).toInt32 = v) (hdg : decode cc pc = .ok (.bipush n, 2)) (k : V K f kc ks (pc + 2) lv (.int v :: st)) : V K f kc ks pc lv (st) := fun H locs ls cells slots a1 a2 a3 a4 a5 => lv_bipush X.1 X.2.1 hdg hv (k H locs ls cells slots a1 a2 a3 a4 a5)
theorem V_sipush (X : CX K cc own Ts nL fr lo) {n : Int} {v : Int32} (hv : (Int16.ofInt n).toInt32 = v) (hdg : decode cc pc = .ok (.sipush n, 3)) (k : V K f kc ks (pc + 3) lv (.int v :: st)) : V K f kc ks pc lv (st) := fun H locs ls cells slots a1 a2 a3 a4 a5 => lv_sipush X.1 X.2.1 hdg hv (k H locs ls cells slots a1 a2 a3 a4 a5)
theorem V_lconst (X : CX K cc own Ts nL fr lo) {n : Fin 2} {v : Int64} (hv : Int64.ofNat (n : Nat) = v) (hdg : decode cc pc = .ok (.lconst n, 1)) (k : V K f kc ks (pc + 1) lv (.long v :: st)) : V K f kc ks pc lv (st) := fun H locs ls cells slots a1 a2 a3 a4 a5 => lv_lconst X.1 X.2.1 hdg hv (k H locs ls cells slots a1 a2 a3 a4 a5)
theorem V_null (X : CX K cc own Ts nL fr lo) (hdg : decode cc pc = .ok (.aconst_null, 1)) (k : V K f kc ks (pc + 1) lv (.null :: st)) : V K f kc ks pc lv (st) := fun H locs ls cells slots a1 a2 a3 a4 a5 => lv_null X.1 X.2.1 hdg (k H locs ls cells slots a1 a2 a3 a4 a5)
theorem V_iload_n (X : CX K cc own Ts nL fr lo) {j : Fin 4} {x : Int32} (h : lk lv (j : Nat) = some (.int x)) (hdg : decode cc pc = .ok (.iload_n j, 1)) (k : V K f kc ks (pc + 1) lv (.int x :: st)) : V K f kc ks pc lv (st) := fun H locs ls cells slots a1 a2 a3 a4 a5 => lv_iload_n X.1 X.2.1 hdg rfl (a3.at h) (k H locs ls cells slots a1 a2 a3 a4 a5)
theorem V_iload (X : CX K cc own Ts nL fr lo) {i : Nat} {x : Int32} (h : lk lv i = some (.int x)) (hdg : decode cc pc = .ok (.iload i, 2)) (k : V K f kc ks (pc + 2) lv (.int x :: st)) : V K f kc ks pc lv (st) := fun H locs ls cells slots a1 a2 a3 a4 a5 => lv_iload X.1 X.2.1 hdg (a3.at h) (k H locs ls cells slots a1 a2 a3 a4 a5)
theorem V_aload_n (X : CX K cc own Ts nL fr lo) {j : Fin 4} {x : Nat} (h : lk lv (j : Nat) = some (.ref x)) (hdg : decode cc pc = .ok (.aload_n j, 1)) (k : V K f kc ks (pc + 1) lv (.ref x :: st)) : V K f kc ks pc lv (st) := fun H locs ls cells slots a1 a2 a3 a4 a5 => lv_aload_n X.1 X.2.1 hdg rfl (a3.at h) (k H locs ls cells slots a1 a2 a3 a4 a5)
theorem V_aload (X : CX K cc own Ts nL fr lo) {i : Nat} {x : Nat} (h : lk lv i = some (.ref x)) (hdg : decode cc pc = .ok (.aload i, 2)) (k : V K f kc ks (pc + 2) lv (.ref x :: st)) : V K f kc ks pc lv (st) := fun H locs ls cells slots a1 a2 a3 a4 a5 => lv_aload X.1 X.2.1 hdg (a3.at h) (k H locs ls cells slots a1 a2 a3 a4 a5)
theorem V_aload_nN (X : CX K cc own Ts nL fr lo) {j : Fin 4} (h : lk lv (j : Nat) = some .null) (hdg : decode cc pc = .ok (.aload_n j, 1)) (k : V K f kc ks (pc + 1) lv (.null :: st)) : V K f kc ks pc lv (st) := fun H locs ls cells slots a1 a2 a3 a4 a5 => lv_aload_nN X.1 X.2.1 hdg rfl (a3.at h) (k H locs ls cells slots a1 a2 a3 a4 a5)
theorem V_istore_n (X : CX K cc own Ts nL fr lo) {j : Fin 4} {x : Int32} (hn : (j : Nat) < nL) (hl : ((j : Nat), Value.int x) :: rmv lv (j : Nat) = lv') (hdg : decode cc pc = .ok (.istore_n j, 1)) (k : V K f kc ks (pc + 1) lv' st) : V K f kc ks pc lv (Value.int x :: st) := fun H locs ls cells slots a1 a2 a3 a4 a5 => lv_istore_n X.1 X.2.1 hdg rfl a3.1 (by rw [X.nL]; exact hn) ((congrArg (((j : Nat), Value.int x) :: ·) (rmv_eq lv _ a3.2)).trans hl) (fun ls' h' => k H locs ls' cells slots a1 a2 ⟨h', by rw [← hl]; exact fun q hq => (List.mem_cons.mp hq).elim (fun e => by rw [e]; rfl) (rmv_mem a3.2 q)⟩ a4 a5)
theorem V_istore (X : CX K cc own Ts nL fr lo) {i : Nat} {x : Int32} (hn : i < nL) (hl : (i, Value.int x) :: rmv lv i = lv') (hdg : decode cc pc = .ok (.istore i, 2)) (k : V K f kc ks (pc + 2) lv' st) : V K f kc ks pc lv (Value.int x :: st) := fun H locs ls cells slots a1 a2 a3 a4 a5 => lv_istore X.1 X.2.1 hdg a3.1 (by rw [X.nL]; exact hn) ((congrArg ((i, Value.int x) :: ·) (rmv_eq lv _ a3.2)).trans hl) (fun ls' h' => k H locs ls' cells slots a1 a2 ⟨h', by rw [← hl]; exact fun q hq => (List.mem_cons.mp hq).elim (fun e => by rw [e]; rfl) (rmv_mem a3.2 q)⟩ a4 a5)
theorem V_astore_n (X : CX K cc own Ts nL fr lo) {j : Fin 4} {x : Nat} (hn : (j : Nat) < nL) (hl : ((j : Nat), Value.ref x) :: rmv lv (j : Nat) = lv') (hdg : decode cc pc = .ok (.astore_n j, 1)) (k : V K f kc ks (pc + 1) lv' st) : V K f kc ks pc lv (Value.ref x :: st) := fun H locs ls cells slots a1 a2 a3 a4 a5 => lv_astore_n X.1 X.2.1 hdg rfl a3.1 (by rw [X.nL]; exact hn) ((congrArg (((j : Nat), Value.ref x) :: ·) (rmv_eq lv _ a3.2)).trans hl) (fun ls' h' => k H locs ls' cells slots a1 a2 ⟨h', by rw [← hl]; exact fun q hq => (List.mem_cons.mp hq).elim (fun e => by rw [e]; rfl) (rmv_mem a3.2 q)⟩ a4 a5)
theorem V_astore (X : CX K cc own Ts nL fr lo) {i : Nat} {x : Nat} (hn : i < nL) (hl : (i, Value.ref x) :: rmv lv i = lv') (hdg : decode cc pc = .ok (.astore i, 2)) (k : V K f kc ks (pc + 2) lv' st) : V K f kc ks pc lv (Value.ref x :: st) := fun H locs ls cells slots a1 a2 a3 a4 a5 => lv_astore X.1 X.2.1 hdg a3.1 (by rw [X.nL]; exact hn) ((congrArg ((i, Value.ref x) :: ·) (rmv_eq lv _ a3.2)).trans hl) (fun ls' h' => k H locs ls' cells slots a1 a2 ⟨h', by rw [← hl]; exact fun q hq => (List.mem_cons.mp hq).elim (fun e => by rw [e]; rfl) (rmv_mem a3.2 q)⟩ a4 a5)
theorem V_iinc (X : CX K cc own Ts nL fr lo) {i : Nat} {n : Int} {x v : Int32} (h : lk lv i = some (.int x)) (hv : x + Int32.ofInt n = v) (hn : i < nL) (hl : (i, Value.int v) :: rmv lv i = lv') (hdg : decode cc pc = .ok (.iinc i n, 3)) (k : V K f kc ks (pc + 3) lv' st) : V K f kc ks pc lv st := fun H locs ls cells slots a1 a2 a3 a4 a5 => by
  obtain ⟨q, hq⟩ := List.getElem?_of_mem (lk_mem lv i _ h)
  exact lv_iinc X.1 X.2.1 hdg a3.1 hq hv (by rw [X.nL]; exact hn) ((congrArg ((i, Value.int v) :: ·) (rmv_eq lv _ a3.2)).trans hl) (fun ls' h' => k H locs ls' cells slots a1 a2 ⟨h', by rw [← hl]; exact fun q hq => (List.mem_cons.mp hq).elim (fun e => by rw [e]; rfl) (rmv_mem a3.2 q)⟩ a4 a5)
theorem V_iadd (X : CX K cc own Ts nL fr lo) {x y : Int32} (hdg : decode cc pc = .ok (.iadd, 1)) (k : V K f kc ks (pc + 1) lv (.int (x + y) :: st)) : V K f kc ks pc lv (.int y :: .int x :: st) := fun H locs ls cells slots a1 a2 a3 a4 a5 => lv_iadd X.1 X.2.1 hdg (k H locs ls cells slots a1 a2 a3 a4 a5)
theorem V_isub (X : CX K cc own Ts nL fr lo) {x y : Int32} (hdg : decode cc pc = .ok (.isub, 1)) (k : V K f kc ks (pc + 1) lv (.int (x - y) :: st)) : V K f kc ks pc lv (.int y :: .int x :: st) := fun H locs ls cells slots a1 a2 a3 a4 a5 => lv_isub X.1 X.2.1 hdg (k H locs ls cells slots a1 a2 a3 a4 a5)
theorem V_imul (X : CX K cc own Ts nL fr lo) {x y : Int32} (hdg : decode cc pc = .ok (.imul, 1)) (k : V K f kc ks (pc + 1) lv (.int (x * y) :: st)) : V K f kc ks pc lv (.int y :: .int x :: st) := fun H locs ls cells slots a1 a2 a3 a4 a5 => lv_imul X.1 X.2.1 hdg (k H locs ls cells slots a1 a2 a3 a4 a5)
theorem V_iand (X : CX K cc own Ts nL fr lo) {x y : Int32} (hdg : decode cc pc = .ok (.iand, 1)) (k : V K f kc ks (pc + 1) lv (.int (x &&& y) :: st)) : V K f kc ks pc lv (.int y :: .int x :: st) := fun H locs ls cells slots a1 a2 a3 a4 a5 => lv_iand X.1 X.2.1 hdg (k H locs ls cells slots a1 a2 a3 a4 a5)
theorem V_ior (X : CX K cc own Ts nL fr lo) {x y : Int32} (hdg : decode cc pc = .ok (.ior, 1)) (k : V K f kc ks (pc + 1) lv (.int (x ||| y) :: st)) : V K f kc ks pc lv (.int y :: .int x :: st) := fun H locs ls cells slots a1 a2 a3 a4 a5 => lv_ior X.1 X.2.1 hdg (k H locs ls cells slots a1 a2 a3 a4 a5)
theorem V_ixor (X : CX K cc own Ts nL fr lo) {x y : Int32} (hdg : decode cc pc = .ok (.ixor, 1)) (k : V K f kc ks (pc + 1) lv (.int (x ^^^ y) :: st)) : V K f kc ks pc lv (.int y :: .int x :: st) := fun H locs ls cells slots a1 a2 a3 a4 a5 => lv_ixor X.1 X.2.1 hdg (k H locs ls cells slots a1 a2 a3 a4 a5)
theorem V_idiv (X : CX K cc own Ts nL fr lo) {x y : Int32} (hne : ¬ y = 0) (hdg : decode cc pc = .ok (.idiv, 1)) (k : V K f kc ks (pc + 1) lv (.int (x / y) :: st)) : V K f kc ks pc lv (.int y :: .int x :: st) := fun H locs ls cells slots a1 a2 a3 a4 a5 => lv_idiv X.1 X.2.1 hdg hne (k H locs ls cells slots a1 a2 a3 a4 a5)
theorem V_irem (X : CX K cc own Ts nL fr lo) {x y : Int32} (hne : ¬ y = 0) (hdg : decode cc pc = .ok (.irem, 1)) (k : V K f kc ks (pc + 1) lv (.int (x - x / y * y) :: st)) : V K f kc ks pc lv (.int y :: .int x :: st) := fun H locs ls cells slots a1 a2 a3 a4 a5 => lv_irem X.1 X.2.1 hdg hne (k H locs ls cells slots a1 a2 a3 a4 a5)
theorem V_ineg (X : CX K cc own Ts nL fr lo) {x : Int32} (hdg : decode cc pc = .ok (.ineg, 1)) (k : V K f kc ks (pc + 1) lv (.int (-x) :: st)) : V K f kc ks pc lv (.int x :: st) := fun H locs ls cells slots a1 a2 a3 a4 a5 => lv_ineg X.1 X.2.1 hdg (k H locs ls cells slots a1 a2 a3 a4 a5)
theorem V_ishl (X : CX K cc own Ts nL fr lo) {x y : Int32} (hdg : decode cc pc = .ok (.ishl, 1)) (k : V K f kc ks (pc + 1) lv (.int (x <<< (y &&& 31)) :: st)) : V K f kc ks pc lv (.int y :: .int x :: st) := fun H locs ls cells slots a1 a2 a3 a4 a5 => lv_ishl X.1 X.2.1 hdg (k H locs ls cells slots a1 a2 a3 a4 a5)
theorem V_ishr (X : CX K cc own Ts nL fr lo) {x y : Int32} (hdg : decode cc pc = .ok (.ishr, 1)) (k : V K f kc ks (pc + 1) lv (.int (x >>> (y &&& 31)) :: st)) : V K f kc ks pc lv (.int y :: .int x :: st) := fun H locs ls cells slots a1 a2 a3 a4 a5 => lv_ishr X.1 X.2.1 hdg (k H locs ls cells slots a1 a2 a3 a4 a5)
theorem V_iushr (X : CX K cc own Ts nL fr lo) {x y v : Int32} (hv : (x.toUInt32 >>> (y.toUInt32 &&& Int32.toUInt32 31)).toInt32 = v) (hdg : decode cc pc = .ok (.iushr, 1)) (k : V K f kc ks (pc + 1) lv (.int v :: st)) : V K f kc ks pc lv (.int y :: .int x :: st) := fun H locs ls cells slots a1 a2 a3 a4 a5 => lv_iushr X.1 X.2.1 hdg hv (k H locs ls cells slots a1 a2 a3 a4 a5)
theorem V_i2l (X : CX K cc own Ts nL fr lo) {x : Int32} (hdg : decode cc pc = .ok (.i2l, 1)) (k : V K f kc ks (pc + 1) lv (.long x.toInt64 :: st)) : V K f kc ks pc lv (.int x :: st) := fun H locs ls cells slots a1 a2 a3 a4 a5 => lv_i2l X.1 X.2.1 hdg rfl (k H locs ls cells slots a1 a2 a3 a4 a5)
theorem V_lcmp (X : CX K cc own Ts nL fr lo) {x y : Int64} (hdg : decode cc pc = .ok (.lcmp, 1)) (k : V K f kc ks (pc + 1) lv (.int (lg_cmp x y) :: st)) : V K f kc ks pc lv (.long y :: .long x :: st) := fun H locs ls cells slots a1 a2 a3 a4 a5 => W.lcmp X.1 X.2.1 hdg (k H locs ls cells slots a1 a2 a3 a4 a5)
theorem V_pop (X : CX K cc own Ts nL fr lo) {a : Value} (ha : a.category = 1) (hdg : decode cc pc = .ok (.pop, 1)) (k : V K f kc ks (pc + 1) lv (st)) : V K f kc ks pc lv (a :: st) := fun H locs ls cells slots a1 a2 a3 a4 a5 => lv_pop X.1 X.2.1 hdg ha (k H locs ls cells slots a1 a2 a3 a4 a5)
theorem V_dup (X : CX K cc own Ts nL fr lo) {a : Value} (ha : a.category = 1) (hdg : decode cc pc = .ok (.dup, 1)) (k : V K f kc ks (pc + 1) lv (a :: a :: st)) : V K f kc ks pc lv (a :: st) := fun H locs ls cells slots a1 a2 a3 a4 a5 => lv_dup X.1 X.2.1 hdg ha (k H locs ls cells slots a1 a2 a3 a4 a5)
theorem V_dup2 (X : CX K cc own Ts nL fr lo) {a b : Value} (ha : a.category = 1) (hb : b.category = 1) (hdg : decode cc pc = .ok (.dup2, 1)) (k : V K f kc ks (pc + 1) lv (a :: b :: a :: b :: st)) : V K f kc ks pc lv (a :: b :: st) := fun H locs ls cells slots a1 a2 a3 a4 a5 => lv_dup2_11 X.1 X.2.1 hdg ha hb (k H locs ls cells slots a1 a2 a3 a4 a5)
theorem V_dup_x1 (X : CX K cc own Ts nL fr lo) {a b : Value} (ha : a.category = 1) (hb : b.category = 1) (hdg : decode cc pc = .ok (.dup_x1, 1)) (k : V K f kc ks (pc + 1) lv (a :: b :: a :: st)) : V K f kc ks pc lv (a :: b :: st) := fun H locs ls cells slots a1 a2 a3 a4 a5 => lv_dup_x1 X.1 X.2.1 hdg ha hb (k H locs ls cells slots a1 a2 a3 a4 a5)
theorem V_goto (X : CX K cc own Ts nL fr lo) {off : Int} {tgt : Nat} (ht : (pc : Int) + off = (tgt : Int)) (hdg : decode cc pc = .ok (.goto off, 3)) (k : V K f kc ks tgt lv st) : V K f kc ks pc lv st := fun H locs ls cells slots a1 a2 a3 a4 a5 => lv_goto X.1 X.2.1 hdg ht (k H locs ls cells slots a1 a2 a3 a4 a5)
theorem V_if_eq (X : CX K cc own Ts nL fr lo) {x : Int32} {off : Int} {tgt : Nat} (ht : (pc : Int) + off = (tgt : Int)) (hdg : decode cc pc = .ok (.ifCond .eq off, 3)) (kt : x = 0 → V K f kc ks tgt lv st) (kf : ¬ x = 0 → V K f kc ks (pc + 3) lv st) : V K f kc ks pc lv (.int x :: st) := fun H locs ls cells slots a1 a2 a3 a4 a5 => lv_if_eq X.1 X.2.1 hdg ht (fun z => kt z H locs ls cells slots a1 a2 a3 a4 a5) (fun z => kf z H locs ls cells slots a1 a2 a3 a4 a5)
theorem V_if_ne (X : CX K cc own Ts nL fr lo) {x : Int32} {off : Int} {tgt : Nat} (ht : (pc : Int) + off = (tgt : Int)) (hdg : decode cc pc = .ok (.ifCond .ne off, 3)) (kt : ¬ x = 0 → V K f kc ks tgt lv st) (kf : x = 0 → V K f kc ks (pc + 3) lv st) : V K f kc ks pc lv (.int x :: st) := fun H locs ls cells slots a1 a2 a3 a4 a5 => lv_if_ne X.1 X.2.1 hdg ht (fun z => kt z H locs ls cells slots a1 a2 a3 a4 a5) (fun z => kf z H locs ls cells slots a1 a2 a3 a4 a5)
theorem V_if_lt (X : CX K cc own Ts nL fr lo) {x : Int32} {off : Int} {tgt : Nat} (ht : (pc : Int) + off = (tgt : Int)) (hdg : decode cc pc = .ok (.ifCond .lt off, 3)) (kt : x < 0 → V K f kc ks tgt lv st) (kf : ¬ x < 0 → V K f kc ks (pc + 3) lv st) : V K f kc ks pc lv (.int x :: st) := fun H locs ls cells slots a1 a2 a3 a4 a5 => lv_if_lt X.1 X.2.1 hdg ht (fun z => kt z H locs ls cells slots a1 a2 a3 a4 a5) (fun z => kf z H locs ls cells slots a1 a2 a3 a4 a5)
theorem V_if_ge (X : CX K cc own Ts nL fr lo) {x : Int32} {off : Int} {tgt : Nat} (ht : (pc : Int) + off = (tgt : Int)) (hdg : decode cc pc = .ok (.ifCond .ge off, 3)) (kt : 0 ≤ x → V K f kc ks tgt lv st) (kf : ¬ 0 ≤ x → V K f kc ks (pc + 3) lv st) : V K f kc ks pc lv (.int x :: st) := fun H locs ls cells slots a1 a2 a3 a4 a5 => lv_if_ge X.1 X.2.1 hdg ht (fun z => kt z H locs ls cells slots a1 a2 a3 a4 a5) (fun z => kf z H locs ls cells slots a1 a2 a3 a4 a5)
theorem V_if_gt (X : CX K cc own Ts nL fr lo) {x : Int32} {off : Int} {tgt : Nat} (ht : (pc : Int) + off = (tgt : Int)) (hdg : decode cc pc = .ok (.ifCond .gt off, 3)) (kt : 0 < x → V K f kc ks tgt lv st) (kf : ¬ 0 < x → V K f kc ks (pc + 3) lv st) : V K f kc ks pc lv (.int x :: st) := fun H locs ls cells slots a1 a2 a3 a4 a5 => lv_if_gt X.1 X.2.1 hdg ht (fun z => kt z H locs ls cells slots a1 a2 a3 a4 a5) (fun z => kf z H locs ls cells slots a1 a2 a3 a4 a5)
theorem V_if_le (X : CX K cc own Ts nL fr lo) {x : Int32} {off : Int} {tgt : Nat} (ht : (pc : Int) + off = (tgt : Int)) (hdg : decode cc pc = .ok (.ifCond .le off, 3)) (kt : x ≤ 0 → V K f kc ks tgt lv st) (kf : ¬ x ≤ 0 → V K f kc ks (pc + 3) lv st) : V K f kc ks pc lv (.int x :: st) := fun H locs ls cells slots a1 a2 a3 a4 a5 => lv_if_le X.1 X.2.1 hdg ht (fun z => kt z H locs ls cells slots a1 a2 a3 a4 a5) (fun z => kf z H locs ls cells slots a1 a2 a3 a4 a5)
theorem V_icmp_eq (X : CX K cc own Ts nL fr lo) {x y : Int32} {off : Int} {tgt : Nat} (ht : (pc : Int) + off = (tgt : Int)) (hdg : decode cc pc = .ok (.if_icmp .eq off, 3)) (kt : x = y → V K f kc ks tgt lv st) (kf : ¬ x = y → V K f kc ks (pc + 3) lv st) : V K f kc ks pc lv (.int y :: .int x :: st) := fun H locs ls cells slots a1 a2 a3 a4 a5 => lv_icmp_eq X.1 X.2.1 hdg ht (fun z => kt z H locs ls cells slots a1 a2 a3 a4 a5) (fun z => kf z H locs ls cells slots a1 a2 a3 a4 a5)
theorem V_icmp_ne (X : CX K cc own Ts nL fr lo) {x y : Int32} {off : Int} {tgt : Nat} (ht : (pc : Int) + off = (tgt : Int)) (hdg : decode cc pc = .ok (.if_icmp .ne off, 3)) (kt : ¬ x = y → V K f kc ks tgt lv st) (kf : x = y → V K f kc ks (pc + 3) lv st) : V K f kc ks pc lv (.int y :: .int x :: st) := fun H locs ls cells slots a1 a2 a3 a4 a5 => lv_icmp_ne X.1 X.2.1 hdg ht (fun z => kt z H locs ls cells slots a1 a2 a3 a4 a5) (fun z => kf z H locs ls cells slots a1 a2 a3 a4 a5)
theorem V_icmp_lt (X : CX K cc own Ts nL fr lo) {x y : Int32} {off : Int} {tgt : Nat} (ht : (pc : Int) + off = (tgt : Int)) (hdg : decode cc pc = .ok (.if_icmp .lt off, 3)) (kt : x < y → V K f kc ks tgt lv st) (kf : ¬ x < y → V K f kc ks (pc + 3) lv st) : V K f kc ks pc lv (.int y :: .int x :: st) := fun H locs ls cells slots a1 a2 a3 a4 a5 => lv_icmp_lt X.1 X.2.1 hdg ht (fun z => kt z H locs ls cells slots a1 a2 a3 a4 a5) (fun z => kf z H locs ls cells slots a1 a2 a3 a4 a5)
theorem V_icmp_ge (X : CX K cc own Ts nL fr lo) {x y : Int32} {off : Int} {tgt : Nat} (ht : (pc : Int) + off = (tgt : Int)) (hdg : decode cc pc = .ok (.if_icmp .ge off, 3)) (kt : y ≤ x → V K f kc ks tgt lv st) (kf : ¬ y ≤ x → V K f kc ks (pc + 3) lv st) : V K f kc ks pc lv (.int y :: .int x :: st) := fun H locs ls cells slots a1 a2 a3 a4 a5 => lv_icmp_ge X.1 X.2.1 hdg ht (fun z => kt z H locs ls cells slots a1 a2 a3 a4 a5) (fun z => kf z H locs ls cells slots a1 a2 a3 a4 a5)
theorem V_icmp_gt (X : CX K cc own Ts nL fr lo) {x y : Int32} {off : Int} {tgt : Nat} (ht : (pc : Int) + off = (tgt : Int)) (hdg : decode cc pc = .ok (.if_icmp .gt off, 3)) (kt : y < x → V K f kc ks tgt lv st) (kf : ¬ y < x → V K f kc ks (pc + 3) lv st) : V K f kc ks pc lv (.int y :: .int x :: st) := fun H locs ls cells slots a1 a2 a3 a4 a5 => lv_icmp_gt X.1 X.2.1 hdg ht (fun z => kt z H locs ls cells slots a1 a2 a3 a4 a5) (fun z => kf z H locs ls cells slots a1 a2 a3 a4 a5)
theorem V_icmp_le (X : CX K cc own Ts nL fr lo) {x y : Int32} {off : Int} {tgt : Nat} (ht : (pc : Int) + off = (tgt : Int)) (hdg : decode cc pc = .ok (.if_icmp .le off, 3)) (kt : x ≤ y → V K f kc ks tgt lv st) (kf : ¬ x ≤ y → V K f kc ks (pc + 3) lv st) : V K f kc ks pc lv (.int y :: .int x :: st) := fun H locs ls cells slots a1 a2 a3 a4 a5 => lv_icmp_le X.1 X.2.1 hdg ht (fun z => kt z H locs ls cells slots a1 a2 a3 a4 a5) (fun z => kf z H locs ls cells slots a1 a2 a3 a4 a5)
theorem V_ifnull (X : CX K cc own Ts nL fr lo) {x : Nat} {off : Int} (hdg : decode cc pc = .ok (.ifnull off, 3)) (k : V K f kc ks (pc + 3) lv st) : V K f kc ks pc lv (.ref x :: st) := fun H locs ls cells slots a1 a2 a3 a4 a5 => lv_ifnull X.1 X.2.1 hdg (k H locs ls cells slots a1 a2 a3 a4 a5)
theorem V_ifnullN (X : CX K cc own Ts nL fr lo) {off : Int} {tgt : Nat} (ht : (pc : Int) + off = (tgt : Int)) (hdg : decode cc pc = .ok (.ifnull off, 3)) (k : V K f kc ks tgt lv st) : V K f kc ks pc lv (.null :: st) := fun H locs ls cells slots a1 a2 a3 a4 a5 => lv_ifnullN X.1 X.2.1 hdg ht (k H locs ls cells slots a1 a2 a3 a4 a5)
theorem V_ifnonnull (X : CX K cc own Ts nL fr lo) {x : Nat} {off : Int} {tgt : Nat} (ht : (pc : Int) + off = (tgt : Int)) (hdg : decode cc pc = .ok (.ifnonnull off, 3)) (k : V K f kc ks tgt lv st) : V K f kc ks pc lv (.ref x :: st) := fun H locs ls cells slots a1 a2 a3 a4 a5 => lv_ifnonnull X.1 X.2.1 hdg ht (k H locs ls cells slots a1 a2 a3 a4 a5)
theorem V_ifnonnullN (X : CX K cc own Ts nL fr lo) {off : Int} (hdg : decode cc pc = .ok (.ifnonnull off, 3)) (k : V K f kc ks (pc + 3) lv st) : V K f kc ks pc lv (.null :: st) := fun H locs ls cells slots a1 a2 a3 a4 a5 => lv_ifnonnullN X.1 X.2.1 hdg (k H locs ls cells slots a1 a2 a3 a4 a5)
theorem V_acmp_eq (X : CX K cc own Ts nL fr lo) {x y : Nat} {off : Int} {tgt : Nat} (ht : (pc : Int) + off = (tgt : Int)) (hdg : decode cc pc = .ok (.if_acmp .eq off, 3)) (kt : x = y → V K f kc ks tgt lv st) (kf : ¬ x = y → V K f kc ks (pc + 3) lv st) : V K f kc ks pc lv (.ref y :: .ref x :: st) := fun H locs ls cells slots a1 a2 a3 a4 a5 => lv_acmp_eq (rx := some x) (ry := some y) X.1 X.2.1 hdg ht (fun z => kt (Option.some.inj z) H locs ls cells slots a1 a2 a3 a4 a5) (fun z => kf (fun z2 => z (congrArg some z2)) H locs ls cells slots a1 a2 a3 a4 a5)
theorem V_acmp_ne (X : CX K cc own Ts nL fr lo) {x y : Nat} {off : Int} {tgt : Nat} (ht : (pc : Int) + off = (tgt : Int)) (hdg : decode cc pc = .ok (.if_acmp .ne off, 3)) (kt : ¬ x = y → V K f kc ks tgt lv st) (kf : x = y → V K f kc ks (pc + 3) lv st) : V K f kc ks pc lv (.ref y :: .ref x :: st) := fun H locs ls cells slots a1 a2 a3 a4 a5 => lv_acmp_ne (rx := some x) (ry := some y) X.1 X.2.1 hdg ht (fun z => kt (fun z2 => z (congrArg some z2)) H locs ls cells slots a1 a2 a3 a4 a5) (fun z => kf (Option.some.inj z) H locs ls cells slots a1 a2 a3 a4 a5)
theorem V_ldc (X : CX K cc own Ts nL fr lo) {i : Nat} {v : Int32} (hc : Jvm.Cond.constant own i v ∈ Ts) (hdg : decode cc pc = .ok (.ldc i, 2)) (k : V K f kc ks (pc + 2) lv (.int v :: st)) : V K f kc ks pc lv st := fun H locs ls cells slots a1 a2 a3 a4 a5 => lv_ldc X.1 X.2.1 X.2.2.2.1 (X.2.2.2.2.1 _ hc) hdg (k H locs ls cells slots a1 a2 a3 a4 a5)
theorem V_tableIn (X : CX K cc own Ts nL fr lo) {dflt lo hi : Int} {offs : Array Int} {len : Nat} {x : Int32} {off : Int} {tgt : Nat} (hdg : decode cc pc = .ok (.tableswitch dflt lo hi offs, len)) (h1 : ¬ x.toInt < lo) (h2 : ¬ hi < x.toInt) (ho : offs[(x.toInt - lo).toNat]? = some off) (ht : (pc : Int) + off = (tgt : Int)) (k : V K f kc ks tgt lv st) : V K f kc ks pc lv (.int x :: st) := fun H locs ls cells slots a1 a2 a3 a4 a5 => lv_tableIn X.1 X.2.1 hdg h1 h2 ho ht (k H locs ls cells slots a1 a2 a3 a4 a5)
theorem V_tableOut (X : CX K cc own Ts nL fr lo) {dflt lo hi : Int} {offs : Array Int} {len : Nat} {x : Int32} {tgt : Nat} (hdg : decode cc pc = .ok (.tableswitch dflt lo hi offs, len)) (h : x.toInt < lo ∨ hi < x.toInt) (ht : (pc : Int) + dflt = (tgt : Int)) (k : V K f kc ks tgt lv st) : V K f kc ks pc lv (.int x :: st) := fun H locs ls cells slots a1 a2 a3 a4 a5 => lv_tableOut X.1 X.2.1 hdg h ht (k H locs ls cells slots a1 a2 a3 a4 a5)
/-! fields -/
theorem V_get (X : CX K cc own Ts nL fr lo) {ref C : String} {T : u_T} {N ci index a : Nat} {t : Tg} {fs : List Value} {v : Value} (k0 : Nat) (he : f a = some (t, .inr (ci, fs))) (hc : vwCl[ci]? = some (C, T, N)) (hin : ∀ w ∈ u_ws C T N, w ∈ Ts) (hk : k0 < N) (hlink : Cond.fieldLink own index ref (T k0).2.1 (T k0).2.2.1 ∈ Ts) (hsame : ∀ x, (kS K).fieldFound? (T k0).1 (T k0).2.1 (T k0).2.2.1 = some x → (kS K).fieldFound? ref (T k0).2.1 (T k0).2.2.1 = some x) (hv : fs[k0]? = some v) (hdg : decode cc pc = .ok (.getfield index, 3)) (k : V K f kc ks (pc + 3) lv (v :: st)) : V K f kc ks pc lv (.ref a :: st) := fun H locs ls cells slots a1 a2 a3 a4 a5 => va_get (own := own) X.1 X.2.1 X.hts hin X.own X.kk.2.1 (a1.P he (w_nk (show (0 : Nat) ≠ 5 by decide))) 0 rfl hc k0 hk (X.hts _ hlink) hsame hv hdg (k H locs ls cells slots a1 a2 a3 a4 a5)
theorem V_put (X : CX K cc own Ts nL fr lo) {ref C : String} {T : u_T} {N ci index a : Nat} {t : Tg} {fs fs' : List Value} {v : Value} {ty : FieldType} {ty0 : Nat → FieldType} (k0 : Nat) (he : f a = some (t, .inr (ci, fs))) (ht : t.1 ≠ 99) (hc : vwCl[ci]? = some (C, T, N)) (hin : ∀ w ∈ u_ws C T N, w ∈ Ts) (hty : ∀ k, k < N → parseFieldDescriptor (T k).2.2.1 = some (ty0 k)) (hnm : ∀ a, a < N → ∀ b, b < N → a ≠ b → (T a).2.1 ≠ (T b).2.1) (hk : k0 < N) (hlink : Cond.fieldLink own index ref (T k0).2.1 (T k0).2.2.1 ∈ Ts) (hsame : ∀ x, (kS K).fieldFound? (T k0).1 (T k0).2.1 (T k0).2.2.1 = some x → (kS K).fieldFound? ref (T k0).2.1 (T k0).2.2.1 = some x) (hfin : (T k0).2.2.2 = false) (hd : ty0 k0 = ty) (hn : narrow ty v = v) (hfit : fits ty v = true) (hl : k0 < fs.length) (hfs : fs.set k0 v = fs') (hdg : decode cc pc = .ok (.putfield index, 3)) (k : V K (w_up f a t (.inr (ci, fs'))) kc ks (pc + 3) lv st) : V K f kc ks pc lv (v :: .ref a :: st) := fun H locs ls cells slots a1 a2 a3 a4 a5 => by
  subst hfs
  have hK := X.kk.2.1
  have hap := va_apart (own := own) X.hts hin ty0 hty hnm hK hc
  obtain ⟨r, h1, cell, q1, q2, q3, q4⟩ := a1.at he (w_nk (show (0 : Nat) ≠ 5 by decide))
  have hr : r = (C, T, N) := Option.some.inj (h1.symm.trans hc)
  subst hr
  obtain ⟨hS, hfc, kC, hkC, hkind⟩ := hK.1 ci _ hc
  obtain ⟨cf, kf, fi, f9, hi, hsl⟩ := hS k0 hk
  have hlay := X.hts _ (hin _ (u_in_lay hk))
  unfold u_lay at hlay
  rw [if_neg (by rw [hfin]; decide)] at hlay
  have hst := (u_facts hfc hkC (u_lays X.hts hin hk) hi).1
  have h6 := u_store hfc hkC hkind hlay hi ((hty k0 hk).trans (congrArg some hd)) hn hfit
  refine W.putK X.1 X.2.1 (f := f9) ⟨X.own, X.hts _ hlink, ⟨_, _, _, hsame _ hi⟩, hst⟩ (by rw [q2]; exact h6) q1 q3 (by rw [hsl]; exact k2_hasslot (q4 k0 hk)) rfl rfl hdg fun H' e1 e2 e3 => ?_
  rw [hsl] at e1 ⊢
  have hown := a1.own he ht
  exact k H' _ ls cells slots (a1.put hown ⟨_, hc, t_OB.to (V := updV (vp_V fs) k0 v) ⟨_, e1, q2, q3, t_set q4 hap hk v⟩ (fun j _ => vp_updV_set hl v j)⟩ e3) (a2.put e2 e3 hown) a3 a4 a5
theorem V_putF (X : CX K cc own Ts nL fr lo) {ref C : String} {T : u_T} {N ci index a : Nat} {t : Tg} {fs fs' : List Value} {v : Value} {ty : FieldType} {ty0 : Nat → FieldType} (hin2 : (kY K).name = "<init>") (k0 : Nat) (he : f a = some (t, .inr (ci, fs))) (ht : t.1 ≠ 99) (hc : vwCl[ci]? = some (C, T, N)) (hin : ∀ w ∈ u_ws C T N, w ∈ Ts) (hty : ∀ k, k < N → parseFieldDescriptor (T k).2.2.1 = some (ty0 k)) (hnm : ∀ a, a < N → ∀ b, b < N → a ≠ b → (T a).2.1 ≠ (T b).2.1) (hk : k0 < N) (hlink : Cond.fieldLink own index ref (T k0).2.1 (T k0).2.2.1 ∈ Ts) (hsame : ∀ x, (kS K).fieldFound? (T k0).1 (T k0).2.1 (T k0).2.2.1 = some x → (kS K).fieldFound? ref (T k0).2.1 (T k0).2.2.1 = some x) (hfin : (T k0).2.2.2 = true) (hdecl : (T k0).1 = own) (hd : ty0 k0 = ty) (hn : narrow ty v = v) (hfit : fits ty v = true) (hl : k0 < fs.length) (hfs : fs.set k0 v = fs') (hdg : decode cc pc = .ok (.putfield index, 3)) (k : V K (w_up f a t (.inr (ci, fs'))) kc ks (pc + 3) lv st) : V K f kc ks pc lv (v :: .ref a :: st) := fun H locs ls cells slots a1 a2 a3 a4 a5 => by
  subst hfs
  have hK := X.kk.2.1
  have hap := va_apart (own := own) X.hts hin ty0 hty hnm hK hc
  obtain ⟨r, h1, cell, q1, q2, q3, q4⟩ := a1.at he (w_nk (show (0 : Nat) ≠ 5 by decide))
  have hr : r = (C, T, N) := Option.some.inj (h1.symm.trans hc)
  subst hr
  obtain ⟨hS, hfc, kC, hkC, hkind⟩ := hK.1 ci _ hc
  obtain ⟨cf, kf, fi, f9, hi, hsl⟩ := hS k0 hk
  have hlay := X.hts _ (hin _ (u_in_lay hk))
  unfold u_lay at hlay
  rw [if_pos hfin] at hlay
  have hst := (u_facts hfc hkC (u_lays X.hts hin hk) hi).1
  have hcf : (kM K).cls = cf := by
    obtain ⟨_, _, c', _, _, _, -, -, hf', -, -, -, hown2, -⟩ := Cond.laysFinal_spec hlay
    have e1 : c' = cf := by have := hi.symm.trans hf'; simp at this; exact this.1.symm
    rw [hdecl] at hown2
    rw [← e1]; exact Option.some.inj (X.own.symm.trans hown2)
  have h6 := u_fits hfc hkC hkind (Or.inr hlay) hi ((hty k0 hk).trans (congrArg some hd)) hn hfit
  refine W.putFinK X.1 X.2.1 X.own (X.hts _ hlink) (hsame _ hi) hst hcf hin2 (by rw [q2]; exact h6) q1 q3 (by rw [hsl]; exact k2_hasslot (q4 k0 hk)) rfl rfl hdg fun H' e1 e2 e3 => ?_
  rw [hsl] at e1 ⊢
  have hown := a1.own he ht
  exact k H' _ ls cells slots (a1.put hown ⟨_, hc, t_OB.to (V := updV (vp_V fs) k0 v) ⟨_, e1, q2, q3, t_set q4 hap hk v⟩ (fun j _ => vp_updV_set hl v j)⟩ e3) (a2.put e2 e3 hown) a3 a4 a5
/-! arrays -/
abbrev oI (G : GG) (n : Nat) (g : Nat → Int32) : va_E := .inl (gI G, n, .inl g)
abbrev oJ (G : GG) (n : Nat) (g : Nat → Int64) : va_E := .inl (gJ G, n, .inr (.inl g))
abbrev oQ (G : GG) (n : Nat) (g : Nat → Option Nat) : va_E := .inl (gO G, n, .inr (.inr (.inr (.inr g))))
abbrev oO (ci : Nat) (fs : List Value) : va_E := .inr (ci, fs)
theorem V_iald (X : CX K cc own Ts nL fr lo) {a n : Nat} {t : Tg} {g : Nat → Int32} {i : Int32} (he : f a = some (t, oI (kG K) n g)) (hin : vp_in i n) (hdg : decode cc pc = .ok (.iaload, 1)) (k : V K f kc ks (pc + 1) lv (.int (g i.toNatClampNeg) :: st)) : V K f kc ks pc lv (.int i :: .ref a :: st) := fun H locs ls cells slots a1 a2 a3 a4 a5 => va_iald X.1 X.2.1 X.kk.2.1 (a1.P he (w_nk (show (1 : Nat) ≠ 5 by decide))) 0 0 rfl rfl hin hdg (k H locs ls cells slots a1 a2 a3 a4 a5)
theorem V_lald (X : CX K cc own Ts nL fr lo) {a n : Nat} {t : Tg} {g : Nat → Int64} {i : Int32} (he : f a = some (t, oJ (kG K) n g)) (hin : vp_in i n) (hdg : decode cc pc = .ok (.laload, 1)) (k : V K f kc ks (pc + 1) lv (.long (g i.toNatClampNeg) :: st)) : V K f kc ks pc lv (.int i :: .ref a :: st) := fun H locs ls cells slots a1 a2 a3 a4 a5 => va_lald X.1 X.2.1 X.kk.2.1 (a1.P he (w_nk (show (2 : Nat) ≠ 5 by decide))) 0 2 rfl rfl hin hdg (k H locs ls cells slots a1 a2 a3 a4 a5)
theorem V_aldq (X : CX K cc own Ts nL fr lo) {a n : Nat} {t : Tg} {g : Nat → Option Nat} {i : Int32} (he : f a = some (t, oQ (kG K) n g)) (hin : vp_in i n) (hdg : decode cc pc = .ok (.aaload, 1)) (k : V K f kc ks (pc + 1) lv (va_rf (g i.toNatClampNeg) :: st)) : V K f kc ks pc lv (.int i :: .ref a :: st) := fun H locs ls cells slots a1 a2 a3 a4 a5 => va_aldq X.1 X.2.1 X.kk.2.1 (a1.P he (fun _ q => hin (Or.inr (by rw [show n = 0 from congrArg w_n q]; exact Nat.zero_le _)))) 0 3 rfl rfl hin hdg (k H locs ls cells slots a1 a2 a3 a4 a5)
theorem V_alenI (X : CX K cc own Ts nL fr lo) {a n : Nat} {t : Tg} {g : Nat → Int32} (he : f a = some (t, oI (kG K) n g)) (hdg : decode cc pc = .ok (.arraylength, 1)) (k : V K f kc ks (pc + 1) lv (.int (nI n) :: st)) : V K f kc ks pc lv (.ref a :: st) := fun H locs ls cells slots a1 a2 a3 a4 a5 => va_alen X.1 X.2.1 X.kk.2.1 (a1.P he (w_nk (show (1 : Nat) ≠ 5 by decide))) 0 0 rfl rfl rfl hdg (k H locs ls cells slots a1 a2 a3 a4 a5)
theorem V_alenQ (X : CX K cc own Ts nL fr lo) {a n : Nat} {t : Tg} {g : Nat → Option Nat} (he : f a = some (t, oQ (kG K) n g)) (hdg : decode cc pc = .ok (.arraylength, 1)) (k : V K f kc ks (pc + 1) lv (.int (nI n) :: st)) : V K f kc ks pc lv (.ref a :: st) := fun H locs ls cells slots a1 a2 a3 a4 a5 => by
  rcases (a1 a t _ he).1 with h | ⟨-, ⟨g', e⟩, cell, b1, b2, b3, b4, b5⟩
  · exact W.alen (n := nI n) X.1 X.2.1 (show H[a]? = some (vp_cell _ _) from h) ((X.kk.2.1.2 3 _ rfl).1 n (fun j => va_rf (g j))) (by rw [vp_cell_q, arrV_size] <;> rfl) rfl rfl hdg (k H locs ls cells slots a1 a2 a3 a4 a5)
  · have hn : n = 0 := congrArg w_n e
    subst hn
    obtain ⟨-, kA, hkA, comp, hkind⟩ := (X.kk.2.1.2 3 _ rfl).1 0 (fun _ => .null)
    exact W.alen (n := nI 0) X.1 X.2.1 b1 ⟨b5, kA, by rw [b2]; exact hkA, comp, hkind⟩ (b3.trans nI_0.symm) rfl rfl hdg (k H locs ls cells slots a1 a2 a3 a4 a5)
theorem V_iast (X : CX K cc own Ts nL fr lo) {a n : Nat} {t : Tg} {g : Nat → Int32} {i x : Int32} (he : f a = some (t, oI (kG K) n g)) (ht : t.1 ≠ 99) (hin : vp_in i n) (hdg : decode cc pc = .ok (.iastore, 1)) (k : V K (w_up f a t (oI (kG K) n (va_up g i.toNatClampNeg x))) kc ks (pc + 1) lv st) : V K f kc ks pc lv (.int x :: .int i :: .ref a :: st) := fun H locs ls cells slots a1 a2 a3 a4 a5 => by
  have hown := a1.own he ht
  refine W.iast X.1 X.2.1 (a1.atT he ht) ((X.kk.2.1.2 0 _ rfl).1 n (fun j => .int (g j))) (fun q => by cases q) (by show ¬ (i < 0 ∨ (arrV _ _ _).slots.size ≤ _); rw [arrV_size]; exact hin) rfl rfl hdg fun H1 e z oq => ?_
  refine k H1 _ ls cells slots (a1.put hown ?_ oq) (a2.put z oq hown) a3 a4 a5
  show H1[a]? = some (vp_cell _ _)
  rw [e, vp_cell_i, vp_cell_i, arrV_store]
  congr 2
  funext q
  by_cases hq : q = i.toNatClampNeg
  · subst hq
    simp [updV, va_up]
  · simp [updV, va_up, hq]
theorem V_last (X : CX K cc own Ts nL fr lo) {a n : Nat} {t : Tg} {g : Nat → Int64} {i : Int32} {x : Int64} (he : f a = some (t, oJ (kG K) n g)) (ht : t.1 ≠ 99) (hin : vp_in i n) (hdg : decode cc pc = .ok (.lastore, 1)) (k : V K (w_up f a t (oJ (kG K) n (va_up g i.toNatClampNeg x))) kc ks (pc + 1) lv st) : V K f kc ks pc lv (.long x :: .int i :: .ref a :: st) := fun H locs ls cells slots a1 a2 a3 a4 a5 => by
  have hown := a1.own he ht
  refine W.last X.1 X.2.1 (a1.atT he ht) ((X.kk.2.1.2 2 _ rfl).1 n (fun j => .long (g j))) (fun q => by cases q) (by show ¬ (i < 0 ∨ (arrV _ _ _).slots.size ≤ _); rw [arrV_size]; exact hin) rfl rfl hdg fun H1 e z oq => ?_
  refine k H1 _ ls cells slots (a1.put hown ?_ oq) (a2.put z oq hown) a3 a4 a5
  show H1[a]? = some (vp_cell _ _)
  rw [e, vp_cell_l, vp_cell_l, arrV_store]
  congr 2
  funext q
  by_cases hq : q = i.toNatClampNeg
  · subst hq
    simp [updV, va_up]
  · simp [updV, va_up, hq]
theorem V_astq (X : CX K cc own Ts nL fr lo) {a n v ci : Nat} {t t2 : Tg} {g : Nat → Option Nat} {vs : List Value} {C : String} {T : u_T} {N : Nat} {i : Int32} (he : f a = some (t, oQ (kG K) n g)) (ht : t.1 ≠ 99) (hv : f v = some (t2, .inr (ci, vs))) (hc : vwCl[ci]? = some (C, T, N)) (hca : va_Nw (.castable C "java/lang/Object") (kS K)) (hin : vp_in i n) (hdg : decode cc pc = .ok (.aastore, 1)) (k : V K (w_up f a t (oQ (kG K) n (va_up g i.toNatClampNeg (some v)))) kc ks (pc + 1) lv st) : V K f kc ks pc lv (.ref v :: .int i :: .ref a :: st) := fun H locs ls cells slots a1 a2 a3 a4 a5 => by
  have hown := a1.own he ht
  have hK := X.kk.2.1
  have hlt : i.toNatClampNeg < n := Nat.not_le.mp fun q => hin (Or.inr q)
  have h0 : ¬ i < 0 := fun q => hin (Or.inl q)
  obtain ⟨r', hr', cellV, g1, g2, g3, -⟩ := a1.at hv (w_nk (show (0 : Nat) ≠ 5 by decide))
  have hcls := (hK.1 ci _ hc).2
  obtain ⟨kA9, comp, k1, k2, k3, -⟩ := (hK.2 3 _ rfl).2
  obtain ⟨kE, hkE, -⟩ := Vm.findClass_spec k3
  obtain ⟨c0, t1, f1, f2, f3⟩ := Cond.castable_spec (va_Nw.use (A := kA K) rfl hca)
  cases hcls.1.symm.trans f1
  cases k3.symm.trans f2
  obtain ⟨kC, hkC, -⟩ := hcls.2
  refine W.aast X.1 X.2.1 (a1.atT he ht) (fun q h => by cases h) (fun h => by cases h) k1 k2 rfl hkE ⟨h0, by show _ < (arrV _ _ _).slots.size; rw [arrV_size]; exact hlt⟩ g1 (fun q h => by rw [g3] at h; cases h) (by rw [g2]; exact hkC) (by rw [g2]; exact f3) rfl rfl hdg fun H1 e z oq => ?_
  refine k H1 _ ls cells slots (a1.put hown ?_ oq) (a2.put z oq hown) a3 a4 a5
  show H1[a]? = some (vp_cell _ _)
  rw [e, vp_cell_q, vp_cell_q, arrV_store]
  congr 2
  funext q
  by_cases hq : q = i.toNatClampNeg
  · subst hq
    simp [updV, va_up, va_rf]
  · simp [updV, va_up, hq]
theorem V_astqN (X : CX K cc own Ts nL fr lo) {a n : Nat} {t : Tg} {g : Nat → Option Nat} {i : Int32} (he : f a = some (t, oQ (kG K) n g)) (ht : t.1 ≠ 99) (hin : vp_in i n) (hdg : decode cc pc = .ok (.aastore, 1)) (k : V K (w_up f a t (oQ (kG K) n (va_up g i.toNatClampNeg none))) kc ks (pc + 1) lv st) : V K f kc ks pc lv (.null :: .int i :: .ref a :: st) := fun H locs ls cells slots a1 a2 a3 a4 a5 => by
  have hown := a1.own he ht
  refine va_WaastN (C := "java/lang/Object") X.1 X.2.1 (a1.atT he ht) ((X.kk.2.1.2 3 _ rfl).1 n (fun j => va_rf (g j))) (fun h => by cases h) (by show ¬ (i < 0 ∨ (arrV _ _ _).slots.size ≤ _); rw [arrV_size]; exact hin) rfl rfl hdg fun H1 e z oq => ?_
  refine k H1 _ ls cells slots (a1.put hown ?_ oq) (a2.put z oq hown) a3 a4 a5
  show H1[a]? = some (vp_cell _ _)
  rw [e, vp_cell_q, vp_cell_q, arrV_store]
  congr 2
  funext q
  by_cases hq : q = i.toNatClampNeg
  · subst hq
    simp [updV, va_up, va_rf]
  · simp [updV, va_up, hq]
/-! new cells -/
theorem V_new (X : CX K cc own Ts nL fr lo) {C : String} {T : u_T} {N ci index kc' ks' : Nat} {ty : Nat → FieldType} {fs : List Value} (t : Tg) (hc : vwCl[ci]? = some (C, T, N)) (hin : ∀ w ∈ u_ws C T N, w ∈ Ts) (hty : ∀ k, k < N → parseFieldDescriptor (T k).2.2.1 = some (ty k)) (hcl : Cond.classLink own index C ∈ Ts) (hinst : Cond.instantiable C N ∈ Ts) (hini : Cond.initialized C ∈ Ts) (hfs : ∀ j, j < N → defaultValue (ty j) = vp_V fs j) (hkc : kc' + 1 ≤ kc) (hks : ks' + N ≤ ks) (hdg : decode cc pc = .ok (.new index, 3)) (k : ∀ q : Nat, f q = none → V K (w_up f q t (.inr (ci, fs))) kc' ks' (pc + 3) lv (.ref q :: st)) : V K f kc ks pc lv st := fun H locs ls cells slots a1 a2 a3 a4 a5 => by
  have hKn := X.kk.2.1.1 ci _ hc
  have hr := X.rm
  have hn : gN (kG K) ≤ H.size := Nat.le_trans X.kk.1 a2.1
  refine W.newcK X.1 X.2.1 X.own (X.hts _ hcl) (X.hts _ hinst) (X.hts _ hini) rfl hdg (by rw [hr]; show _ ≤ kmc K; omega) (by rw [hr]; show _ ≤ kms K; omega) hKn.2.1 rfl fun H1 kC hkC e1 z1 o1 => ?_
  obtain ⟨b1, b2⟩ := a1.new (t := t) (e := .inr (ci, fs)) hn ⟨_, hc, (u_born ty X.hts hin hKn hkC e1 hty).to hfs⟩ o1
  exact k H.size b2 H1 locs ls _ _ b1 ⟨Nat.le_trans a2.1 (by omega), fun x h1 h2 => (o1 x (Nat.lt_of_lt_of_le h1 a2.1)).trans (a2.2.1 x h1 h2), a2.2.2⟩ a3 (by omega) (by omega)
theorem V_newI (X : CX K cc own Ts nL fr lo) {kc' ks' N : Nat} {n : Int32} (t : Tg) (harr : Cond.arrayClass .int ∈ Ts) (hn : ¬ n < 0) (hN : n.toNatClampNeg = N) (hb : N * 4 ≤ 536870912) (hkc : kc' + 1 ≤ kc) (hks : ks' + N ≤ ks) (hdg : decode cc pc = .ok (.newarray .int, 2)) (k : ∀ q : Nat, f q = none → V K (w_up f q t (oI (kG K) N (fun _ => 0))) kc' ks' (pc + 2) lv (.ref q :: st)) : V K f kc ks pc lv (.int n :: st) := fun H locs ls cells slots a1 a2 a3 a4 a5 => by
  have hr := X.rm
  have hnn : gN (kG K) ≤ H.size := Nat.le_trans X.kk.1 a2.1
  refine va_newaK X.1 X.2.1 (atype := .int) (X.hts _ harr) rfl hdg rfl hn hN hb (by rw [hr]; show _ ≤ kmc K; omega) (by rw [hr]; show _ ≤ kms K; omega) rfl fun H1 cA e1 z1 o1 hAr hNm => ?_
  have hcA : cA = gI (kG K) := Option.some.inj (hNm.symm.trans (X.kk.2.1.2 0 _ rfl).2)
  subst hcA
  obtain ⟨b1, b2⟩ := a1.new (t := t) (e := oI (kG K) N (fun _ => 0)) hnn e1 o1
  exact k H.size b2 H1 locs ls _ _ b1 ⟨Nat.le_trans a2.1 (by omega), fun x h1 h2 => (o1 x (Nat.lt_of_lt_of_le h1 a2.1)).trans (a2.2.1 x h1 h2), a2.2.2⟩ a3 (by omega) (by omega)
theorem V_newJ (X : CX K cc own Ts nL fr lo) {kc' ks' N : Nat} {n : Int32} (t : Tg) (harr : Cond.arrayClass .long ∈ Ts) (hn : ¬ n < 0) (hN : n.toNatClampNeg = N) (hb : N * 8 ≤ 536870912) (hkc : kc' + 1 ≤ kc) (hks : ks' + N ≤ ks) (hdg : decode cc pc = .ok (.newarray .long, 2)) (k : ∀ q : Nat, f q = none → V K (w_up f q t (oJ (kG K) N (fun _ => 0))) kc' ks' (pc + 2) lv (.ref q :: st)) : V K f kc ks pc lv (.int n :: st) := fun H locs ls cells slots a1 a2 a3 a4 a5 => by
  have hr := X.rm
  have hnn : gN (kG K) ≤ H.size := Nat.le_trans X.kk.1 a2.1
  refine va_newaK X.1 X.2.1 (atype := .long) (X.hts _ harr) rfl hdg rfl hn hN hb (by rw [hr]; show _ ≤ kmc K; omega) (by rw [hr]; show _ ≤ kms K; omega) rfl fun H1 cA e1 z1 o1 hAr hNm => ?_
  have hcA : cA = gJ (kG K) := Option.some.inj (hNm.symm.trans (X.kk.2.1.2 2 _ rfl).2)
  subst hcA
  obtain ⟨b1, b2⟩ := a1.new (t := t) (e := oJ (kG K) N (fun _ => 0)) hnn e1 o1
  exact k H.size b2 H1 locs ls _ _ b1 ⟨Nat.le_trans a2.1 (by omega), fun x h1 h2 => (o1 x (Nat.lt_of_lt_of_le h1 a2.1)).trans (a2.2.1 x h1 h2), a2.2.2⟩ a3 (by omega) (by omega)
theorem V_newQ (X : CX K cc own Ts nL fr lo) {kc' ks' N index : Nat} {n : Int32} (t : Tg) (hcl : Cond.classLink own index "java/lang/Object" ∈ Ts) (hn : ¬ n < 0) (hN : n.toNatClampNeg = N) (hb : N * 4 ≤ 536870912) (hkc : kc' + 1 ≤ kc) (hks : ks' + N ≤ ks) (hdg : decode cc pc = .ok (.anewarray index, 3)) (k : ∀ q : Nat, f q = none → V K (w_up f q t (oQ (kG K) N (fun _ => none))) kc' ks' (pc + 3) lv (.ref q :: st)) : V K f kc ks pc lv (.int n :: st) := fun H locs ls cells slots a1 a2 a3 a4 a5 => by
  have hr := X.rm
  have hnn : gN (kG K) ≤ H.size := Nat.le_trans X.kk.1 a2.1
  subst hN
  refine W.anew X.1 X.2.1 X.own (X.hts _ hcl) (va_AO.use X.kk.2.2.2.2.2.2.2.1) rfl hdg rfl hn hb (by rw [hr]; show _ ≤ kmc K; omega) (by rw [hr]; show _ ≤ kms K; omega) fun cA kA comp f1 f2 f3 f4 => ?_
  have hcA : cA = gO (kG K) := by
    obtain ⟨kA', comp', g1, g2, g3, g4⟩ := (X.kk.2.1.2 3 _ rfl).2
    exact Option.some.inj (f1.symm.trans g4)
  subst hcA
  generalize hH1 : H.push ({ cls := gO (kG K), slots := Array.replicate n.toNatClampNeg .null, vm := .none } : Cell) = H1
  have z1 : H1.size = H.size + 1 := by rw [← hH1, Array.size_push]
  have e1 : H1[H.size]? = some (arrV (gO (kG K)) n.toNatClampNeg (fun _ => .null)) := by rw [← hH1, Array.getElem?_push_size, ← arrV_new]
  have o1 : ∀ q : Nat, q < H.size → H1[q]? = H[q]? := fun q hq => by rw [← hH1, Array.getElem?_push, if_neg (Nat.ne_of_lt hq)]
  obtain ⟨b1, b2⟩ := a1.new (t := t) (e := oQ (kG K) n.toNatClampNeg (fun _ => none)) hnn (by show H1[H.size]? = some (vp_cell _ _); rw [vp_cell_q]; exact e1) o1
  exact k H.size b2 H1 locs ls _ _ b1 ⟨Nat.le_trans a2.1 (by omega), fun x h1 h2 => (o1 x (Nat.lt_of_lt_of_le h1 a2.1)).trans (a2.2.1 x h1 h2), a2.2.2⟩ a3 (by omega) (by omega)
/-! returns -/
theorem V_iret (X : CX K cc own Ts nL fr lo) {v : Int32} (hr : RQ K (some .int) post) (hp : post (some (.int v)) f) (hdg : decode cc pc = .ok (.ireturn, 1)) : V K f kc ks pc lv [.int v] := fun H locs ls cells slots a1 a2 a3 a4 a5 => hr.2 _ _ _ _ _ (W.widen (k := kmc K) (n := kms K) (by omega) (by omega) (W.iret X.1 X.2.1 hr.1 (fun t ht hW => ⟨⟨_, f, rfl, hp, by rw [ht]; exact a1⟩, a2.F ht⟩) a2.2.2 hdg X.lk))
theorem V_zret (X : CX K cc own Ts nL fr lo) {v : Int32} (hr : RQ K (some .boolean) post) (hn : narrow .boolean (.int v) = .int v) (hp : post (some (.int v)) f) (hdg : decode cc pc = .ok (.ireturn, 1)) : V K f kc ks pc lv [.int v] := fun H locs ls cells slots a1 a2 a3 a4 a5 => hr.2 _ _ _ _ _ (W.widen (k := kmc K) (n := kms K) (by omega) (by omega) (W.zret X.1 X.2.1 hr.1 hn (fun t ht hW => ⟨⟨_, f, rfl, hp, by rw [ht]; exact a1⟩, a2.F ht⟩) a2.2.2 hdg X.lk))
theorem V_vret (X : CX K cc own Ts nL fr lo) (hr : RQ K none post) (hp : post none f) (hdg : decode cc pc = .ok (.return_, 1)) : V K f kc ks pc lv [] := fun H locs ls cells slots a1 a2 a3 a4 a5 => hr.2 _ _ _ _ _ (W.widen (k := kmc K) (n := kms K) (by omega) (by omega) (W.vret X.1 X.2.1 hr.1 (fun t ht hW => ⟨⟨_, f, rfl, hp, by rw [ht]; exact a1⟩, a2.F ht⟩) a2.2.2 hdg X.lk))
theorem V_aret (X : CX K cc own Ts nL fr lo) {v : Nat} {rt : FieldType} (hr : RQ K (some rt) post) (hrt : (∃ n, rt = .object n) ∨ ∃ t, rt = .array t) (hp : post (some (.ref v)) f) (hdg : decode cc pc = .ok (.areturn, 1)) : V K f kc ks pc lv [.ref v] := fun H locs ls cells slots a1 a2 a3 a4 a5 => hr.2 _ _ _ _ _ (W.widen (k := kmc K) (n := kms K) (by omega) (by omega) (W.aret X.1 X.2.1 hr.1 hrt (Or.inr ⟨v, rfl⟩) (fun t ht hW => ⟨⟨_, f, rfl, hp, by rw [ht]; exact a1⟩, a2.F ht⟩) a2.2.2 hdg X.lk))
/-! Object's constructor -/
theorem V_obj (X : CX K cc own Ts nL fr lo) {index a : Nat} (hl : Cond.methodLink own index Lib.objectInit ∈ Ts) (hi : Cond.instanceMethod Lib.objectInit ∈ Ts) (hcode : Cond.code Lib.objectInit ⟨#[0xb1]⟩ 1 none ∈ Ts) (hcat : (st.map fun v => v.category).sum + 12 ≤ lo) (hfr : 1 ≤ fr) (hdg : decode cc pc = .ok (.invokespecial index, 3)) (k : V K f kc ks (pc + 3) lv st) : V K f kc ks pc lv (.ref a :: st) := fun H locs ls cells slots a1 a2 a3 a4 a5 => W.objInit X.1 X.2.1 X.own (X.hts _ hl) (X.hts _ hi) (X.hts _ hcode) rfl (by rw [X.2.2.1]; exact a3.1.1) rfl hdg (by rw [X.rm]; exact hfr) (by rw [X.rm]; show 2 * 0 + _ + 12 ≤ lo; omega) (W.eq (g2 := F0 (kM K) (pc + 3) ls st) rfl (k H locs ls cells slots a1 a2 a3 a4 a5))
/-! static reads -/
theorem V_empty (X : CX K cc own Ts nL fr lo) {index : Nat} (hlink : Cond.fieldLink own index "java/util/ArrayList" "DEFAULTCAPACITY_EMPTY_ELEMENTDATA" "[Ljava/lang/Object;" ∈ Ts) (hdg : decode cc pc = .ok (.getstatic index, 3)) (k : V K f kc ks (pc + 3) lv (.ref (gE (kG K)) :: st)) : V K f kc ks pc lv st := fun H locs ls cells slots a1 a2 a3 a4 a5 => va_gets X.1 X.2.1 X.kk.2.2.1 a2 X.own (X.hts _ hlink) (fun _ h9 => h9) hdg (k H locs ls cells slots a1 a2 a3 a4 a5)
/-! calls -/
def stk : Option Value → List Value → List Value
  | some v, r => v :: r
  | none, r => r
theorem stk_eq (v : Option Value) (r : List Value) : v.toList ++ r = stk v r := by cases v <;> rfl
theorem V_run {mc' ms' kc' ks' : Nat} {rest : List Value} {px : List Value} {post' : Option Value → Wo → Prop} (X : CX K cc own Ts nL fr lo) (hkc : kc' + mc' ≤ kc) (hks : ks' + ms' ≤ ks)
    (hr : ∀ (H : Heap) (locs : List Loc) (ls : Array Slot) (cells slots : Nat), w_H (kG K) f H → va_S (gA (kG K)) (kS K).heap H locs → lh ls (kN K) lv → cells + mc' ≤ kmc K → slots + ms' ≤ kms K → va_Run (kP K) (kL K) (kE K) (kR K) (kS K) (kM K) (kA K) (kB K) (kY K) (kC K) H locs cells slots mc' ms' (F0 (kM K) pc ls st) rest (CQ (kG K) post' px.toArray) (gA (kG K)))
    (kk : ∀ (r : Option Value) (f' : Wo), post' r f' → V K f' kc' ks' (pc + 3) lv (stk r rest)) : V K f kc ks pc lv st := by
  intro H locs ls cells slots a1 a2 a3 a4 a5 T hT X0
  obtain ⟨v, st₀, t, T', L, h0, X', hL, e1, e2, ⟨⟨r, f', hv, hp, hw⟩, hz, hk⟩, stp⟩ := hr H locs ls cells slots a1 a2 a3 (by omega) (by omega) T hT X0
  cases hv
  rw [h0] at hz hk
  have hS' : va_S (gA (kG K)) (kS K).heap T'.heap (locs ++ L) := ⟨Nat.le_trans a2.1 (by rw [e1]; exact hz), fun q h1 h2 => by rw [e1, hk q (Nat.lt_of_lt_of_le h1 a2.1) h2]; exact a2.2.1 q h1 h2, fun q hq => by
      rcases List.mem_append.mp hq with h | h
      · exact a2.2.2 q h
      · exact hL q h⟩
  obtain ⟨t2, b1, b2⟩ := kk v f' hp T'.heap (locs ++ L) ls (cells + mc') (slots + ms') (by rw [e1]; exact hw) hS' a3 (by omega) (by omega) T' rfl X'
  refine ⟨t2, stp t2 ?_, b2⟩
  rw [stk_eq]
  exact b1
theorem CP.pre (X : CX K cc own Ts nL fr lo) {as : List Value} {H : Heap} {locs : List Loc} (a1 : w_H (kG K) f H) (a2 : va_S (gA (kG K)) (kS K).heap H locs) : PreS (kS K) H (CP (kG K) as f) as := ⟨CP.blind, fun U hU hW => ⟨rfl, by rw [hU]; exact KK.moved hW (X.kK.kept a2), by rw [hU]; exact a1⟩⟩
theorem V_callV (X : CX K cc own Ts nL fr lo) {y : MethodName} {ws ws' : List Cond} {fr' lo' mc' ms' kc' ks' index maxL b : Nat} {bytes : ByteArray} {ret' : Option FieldType} {as rest : List Value} {post' : Option Value → Wo → Prop} {C : String} {ci : Nat} {T : u_T} {N : Nat} {t : Tg} {fs : List Value} (hM : Ct (kL K) y ws fr' lo' (kG K) (.ref b :: as) f post' mc' ms') (hb : f b = some (t, .inr (ci, fs))) (hc : vwCl[ci]? = some (C, T, N)) (hT : GoodIn Ts (wsV own index C y ws)) (hw : ws = Cond.code y bytes maxL ret' :: ws') (hd : y.cls = C ∧ y.cls ≠ "java/lang/invoke/MethodHandle" ∧ y.cls ≠ "java/lang/invoke/VarHandle" ∧ (parseMethodDescriptor y.desc).map (fun d => d.parameters.length) = some as.length) (hfr : fr' + 1 ≤ fr) (hlo : 8 + (maxL + 11) + lo' ≤ lo) (hst : st = as.reverse ++ .ref b :: rest) (hcat : (rest.map fun v => v.category).sum ≤ 8) (hkc : kc' + mc' ≤ kc) (hks : ks' + ms' ≤ ks) (hdg : decode cc pc = .ok (.invokevirtual index, 3)) (kk : ∀ (r : Option Value) (f' : Wo), post' r f' → V K f' kc' ks' (pc + 3) lv (stk r rest)) : V K f kc ks pc lv st :=
  V_run (px := .ref b :: as) X hkc hks (fun H locs ls cells slots a1 a2 a3 a4 a5 => va_runV (As := as) (rest := rest) X.fix hM (cwV as.length X.hts hT hw rfl rfl hd (by rw [X.rm]; exact ⟨hfr, hlo⟩)) ⟨CP.blind, va_recv (q0 := 0) (ci := ci) (fs := fs) X.kk.2.1 (a1.P hb (w_nk (show (0 : Nat) ≠ 5 by decide))) hc rfl, (CP.pre X (as := .ref b :: as) a1 a2).2⟩ rfl rfl a3.1.1 hst (lv_room hcat) hdg (by rw [X.rm]; exact ⟨a4, a5⟩)) kk
theorem V_callS (X : CX K cc own Ts nL fr lo) {y : MethodName} {ws ws' : List Cond} {fr' lo' mc' ms' kc' ks' index maxL : Nat} {bytes : ByteArray} {ret' : Option FieldType} {as rest : List Value} {post' : Option Value → Wo → Prop} (hM : Ct (kL K) y ws fr' lo' (kG K) as f post' mc' ms') (hT : GoodIn Ts (va_wsS own index y ws)) (hw : ws = Cond.code y bytes maxL ret' :: ws') (hd : y.cls ≠ "java/lang/invoke/MethodHandle" ∧ y.cls ≠ "java/lang/invoke/VarHandle" ∧ (parseMethodDescriptor y.desc).map (fun d => d.parameters.length) = some as.length) (hfr : fr' + 1 ≤ fr) (hlo : 8 + (maxL + 11) + lo' ≤ lo) (hst : st = as.reverse ++ rest) (hcat : (rest.map fun v => v.category).sum ≤ 8) (hkc : kc' + mc' ≤ kc) (hks : ks' + ms' ≤ ks) (hdg : decode cc pc = .ok (.invokestatic index, 3)) (kk : ∀ (r : Option Value) (f' : Wo), post' r f' → V K f' kc' ks' (pc + 3) lv (stk r rest)) : V K f kc ks pc lv st :=
  V_run (px := as) X hkc hks (fun H locs ls cells slots a1 a2 a3 a4 a5 => va_runS (As := as) (rest := rest) X.fix hM (va_cwS as.length X.hts hT hw rfl rfl hd (by rw [X.rm]; exact ⟨hfr, hlo⟩)) (CP.pre X a1 a2) rfl rfl a3.1.1 hst (lv_room hcat) hdg (by rw [X.rm]; exact ⟨a4, a5⟩)) kk
theorem V_callI (X : CX K cc own Ts nL fr lo) {y : MethodName} {ws ws' : List Cond} {fr' lo' mc' ms' kc' ks' index maxL b : Nat} {bytes : ByteArray} {as rest : List Value} {post' : Option Value → Wo → Prop} (hM : Ct (kL K) y ws fr' lo' (kG K) (.ref b :: as) f post' mc' ms') (hG : GoodIn Ts ws) (hw : ws = Cond.code y bytes maxL none :: ws') (hini : Cond.initialized y.cls ∈ Ts) (hl : Cond.methodLink own index y ∈ Ts) (hin : Cond.instanceMethod y ∈ Ts) (hy : y.name = "<init>") (hd : y.cls ≠ "java/lang/invoke/MethodHandle" ∧ y.cls ≠ "java/lang/invoke/VarHandle" ∧ (parseMethodDescriptor y.desc).map (fun d => d.parameters.length) = some as.length) (hfr : fr' + 1 ≤ fr) (hlo : 8 + (maxL + 11) + lo' ≤ lo) (hst : st = as.reverse ++ .ref b :: rest) (hcat : (rest.map fun v => v.category).sum ≤ 8) (hkc : kc' + mc' ≤ kc) (hks : ks' + ms' ≤ ks) (hdg : decode cc pc = .ok (.invokespecial index, 3)) (kk : ∀ (r : Option Value) (f' : Wo), post' r f' → V K f' kc' ks' (pc + 3) lv (stk r rest)) : V K f kc ks pc lv st :=
  V_run (px := .ref b :: as) X hkc hks (fun H locs ls cells slots a1 a2 a3 a4 a5 => va_runI (As := as) (rest := rest) X.fix hM (cwI as.length X.hts hG hw rfl rfl (X.hts _ hini) (X.hts _ hl) (X.hts _ hin) hy hd (by rw [X.rm]; exact ⟨hfr, hlo⟩)) (CP.pre X (as := .ref b :: as) a1 a2) rfl rfl a3.1.1 hst (lv_room hcat) hdg (by rw [X.rm]; exact ⟨a4, a5⟩)) kk
theorem V_callSN (X : CX K cc own Ts nL fr lo) {y : MethodName} {host : String} {ws ws' : List Cond} {fr' lo' mc' ms' kc' ks' index maxL : Nat} {bytes : ByteArray} {ret' : Option FieldType} {as rest : List Value} {post' : Option Value → Wo → Prop} (hM : Ct (kL K) y ws fr' lo' (kG K) as f post' mc' ms') (hG : GoodIn Ts ws) (hw : ws = Cond.code y bytes maxL ret' :: ws') (hini : Cond.initialized y.cls ∈ Ts) (hl : va_Nw (.methodLinkNest own index y host) (kS K)) (hstat : Cond.static y ∈ Ts) (hd : y.cls ≠ "java/lang/invoke/MethodHandle" ∧ y.cls ≠ "java/lang/invoke/VarHandle" ∧ (parseMethodDescriptor y.desc).map (fun d => d.parameters.length) = some as.length) (hfr : fr' + 1 ≤ fr) (hlo : 8 + (maxL + 11) + lo' ≤ lo) (hst : st = as.reverse ++ rest) (hcat : (rest.map fun v => v.category).sum ≤ 8) (hkc : kc' + mc' ≤ kc) (hks : ks' + ms' ≤ ks) (hdg : decode cc pc = .ok (.invokestatic index, 3)) (kk : ∀ (r : Option Value) (f' : Wo), post' r f' → V K f' kc' ks' (pc + 3) lv (stk r rest)) : V K f kc ks pc lv st :=
  V_run (px := as) X hkc hks (fun H locs ls cells slots a1 a2 a3 a4 a5 => va_runSN (As := as) (rest := rest) X.fix hM ⟨va_cnB as.length X.hts hG hw rfl rfl hl (X.hts _ hini) hd (by rw [X.rm]; exact ⟨hfr, hlo⟩), X.hts _ hstat, trivial⟩ (CP.pre X a1 a2) rfl rfl a3.1.1 hst (lv_room hcat) hdg (by rw [X.rm]; exact ⟨a4, a5⟩)) kk
theorem V_runX {mc' ms' kc' ks' : Nat} {rest : List Value} {pa : List Value} {post' : Option Value → Wo → Prop} {px' : String → Wo → Prop} (X : CX K cc own Ts nL fr lo) (hkc : kc' + mc' ≤ kc) (hks : ks' + ms' ≤ ks)
    (hr : ∀ (H : Heap) (locs : List Loc) (ls : Array Slot) (cells slots : Nat), w_H (kG K) f H → va_S (gA (kG K)) (kS K).heap H locs → lh ls (kN K) lv → cells + mc' ≤ kmc K → slots + ms' ≤ kms K → vx_Run (kP K) (kL K) (kE K) (kR K) (kS K) (kM K) (kA K) (kB K) (kY K) (kC K) H locs cells slots mc' ms' (F0 (kM K) pc ls st) rest (CQ (kG K) post' pa.toArray) (CT (kG K) px') (gA (kG K)))
    (kx : ∀ (E : String) (f' : Wo), px' E f' → VX K f' kc' ks' pc lv E)
    (kk : ∀ (r : Option Value) (f' : Wo), post' r f' → V K f' kc' ks' (pc + 3) lv (stk r rest)) : V K f kc ks pc lv st := by
  intro H locs ls cells slots a1 a2 a3 a4 a5 T hT X0
  rcases hr H locs ls cells slots a1 a2 a3 (by omega) (by omega) T hT X0 with ⟨v, st₀, t, T', L, h0, X', hL, e1, e2, ⟨⟨r, f', hv, hp, hw⟩, hz, hk⟩, stp⟩ | ⟨q, st₀, t, T', L, E, ce, h0, X', hL, e1, e2, ⟨⟨f', hp, hw⟩, hz, hk⟩, hce, hcv, hcl, stp⟩
  · cases hv
    rw [h0] at hz hk
    have hS' : va_S (gA (kG K)) (kS K).heap T'.heap (locs ++ L) := ⟨Nat.le_trans a2.1 (by rw [e1]; exact hz), fun q h1 h2 => by rw [e1, hk q (Nat.lt_of_lt_of_le h1 a2.1) h2]; exact a2.2.1 q h1 h2, fun q hq => by
        rcases List.mem_append.mp hq with h | h
        · exact a2.2.2 q h
        · exact hL q h⟩
    obtain ⟨t2, b1, b2⟩ := kk v f' hp T'.heap (locs ++ L) ls (cells + mc') (slots + ms') (by rw [e1]; exact hw) hS' a3 (by omega) (by omega) T' rfl X'
    refine ⟨t2, stp t2 ?_, b2⟩
    rw [stk_eq]
    exact b1
  · rw [h0] at hz hk
    have hS' : va_S (gA (kG K)) (kS K).heap T'.heap (locs ++ L) := ⟨Nat.le_trans a2.1 (by rw [e1]; exact hz), fun q h1 h2 => by rw [e1, hk q (Nat.lt_of_lt_of_le h1 a2.1) h2]; exact a2.2.1 q h1 h2, fun q hq => by
        rcases List.mem_append.mp hq with h | h
        · exact a2.2.2 q h
        · exact hL q h⟩
    obtain ⟨t2, b1, b2⟩ := kx E f' hp T'.heap (locs ++ L) ls (cells + mc') (slots + ms') rest q ce (by rw [e1]; exact hw) hS' a3 (by omega) (by omega) (by rw [e1]; exact hce) hcv hcl T' rfl X'
    exact ⟨t2, stp.trans b1, b2⟩
theorem V_callVX (X : CX K cc own Ts nL fr lo) {y : MethodName} {ws ws' : List Cond} {fr' lo' mc' ms' kc' ks' index maxL b : Nat} {bytes : ByteArray} {ret' : Option FieldType} {as rest : List Value} {post' : Option Value → Wo → Prop} {px' : String → Wo → Prop} {C : String} {ci : Nat} {T : u_T} {N : Nat} {t : Tg} {fs : List Value} (hM : Cx (kL K) y ws fr' lo' (kG K) (.ref b :: as) f post' px' mc' ms') (hb : f b = some (t, .inr (ci, fs))) (hc : vwCl[ci]? = some (C, T, N)) (hT : GoodIn Ts (wsV own index C y ws)) (hw : ws = Cond.code y bytes maxL ret' :: ws') (hd : y.cls = C ∧ y.cls ≠ "java/lang/invoke/MethodHandle" ∧ y.cls ≠ "java/lang/invoke/VarHandle" ∧ (parseMethodDescriptor y.desc).map (fun d => d.parameters.length) = some as.length) (hfr : fr' + 1 ≤ fr) (hlo : 8 + (maxL + 11) + lo' ≤ lo) (hst : st = as.reverse ++ .ref b :: rest) (hcat : (rest.map fun v => v.category).sum ≤ 8) (hkc : kc' + mc' ≤ kc) (hks : ks' + ms' ≤ ks) (hdg : decode cc pc = .ok (.invokevirtual index, 3)) (kx : ∀ (E : String) (f' : Wo), px' E f' → VX K f' kc' ks' pc lv E) (kk : ∀ (r : Option Value) (f' : Wo), post' r f' → V K f' kc' ks' (pc + 3) lv (stk r rest)) : V K f kc ks pc lv st :=
  V_runX (pa := .ref b :: as) X hkc hks (fun H locs ls cells slots a1 a2 a3 a4 a5 => vx_runV (As := as) (rest := rest) X.fix hM (cwV as.length X.hts hT hw rfl rfl hd (by rw [X.rm]; exact ⟨hfr, hlo⟩)) ⟨CP.blind, va_recv (q0 := 0) (ci := ci) (fs := fs) X.kk.2.1 (a1.P hb (w_nk (show (0 : Nat) ≠ 5 by decide))) hc rfl, (CP.pre X (as := .ref b :: as) a1 a2).2⟩ rfl rfl a3.1.1 hst (lv_room hcat) hdg (by rw [X.rm]; exact ⟨a4, a5⟩)) kx kk
theorem V_callSX (X : CX K cc own Ts nL fr lo) {y : MethodName} {ws ws' : List Cond} {fr' lo' mc' ms' kc' ks' index maxL : Nat} {bytes : ByteArray} {ret' : Option FieldType} {as rest : List Value} {post' : Option Value → Wo → Prop} {px' : String → Wo → Prop} (hM : Cx (kL K) y ws fr' lo' (kG K) as f post' px' mc' ms') (hT : GoodIn Ts (va_wsS own index y ws)) (hw : ws = Cond.code y bytes maxL ret' :: ws') (hd : y.cls ≠ "java/lang/invoke/MethodHandle" ∧ y.cls ≠ "java/lang/invoke/VarHandle" ∧ (parseMethodDescriptor y.desc).map (fun d => d.parameters.length) = some as.length) (hfr : fr' + 1 ≤ fr) (hlo : 8 + (maxL + 11) + lo' ≤ lo) (hst : st = as.reverse ++ rest) (hcat : (rest.map fun v => v.category).sum ≤ 8) (hkc : kc' + mc' ≤ kc) (hks : ks' + ms' ≤ ks) (hdg : decode cc pc = .ok (.invokestatic index, 3)) (kx : ∀ (E : String) (f' : Wo), px' E f' → VX K f' kc' ks' pc lv E) (kk : ∀ (r : Option Value) (f' : Wo), post' r f' → V K f' kc' ks' (pc + 3) lv (stk r rest)) : V K f kc ks pc lv st :=
  V_runX (pa := as) X hkc hks (fun H locs ls cells slots a1 a2 a3 a4 a5 => vx_runS (As := as) (rest := rest) X.fix hM (va_cwS as.length X.hts hT hw rfl rfl hd (by rw [X.rm]; exact ⟨hfr, hlo⟩)) (CP.pre X a1 a2) rfl rfl a3.1.1 hst (lv_room hcat) hdg (by rw [X.rm]; exact ⟨a4, a5⟩)) kx kk
theorem VX_out (X : CX K cc own Ts nL fr lo) {px : String → Wo → Prop} {E : String} (hT : TQ K px) (hp : px E f) : VX K f kc ks pc lv E := by
  obtain ⟨h0, Qc, hQ⟩ := hT
  intro H locs ls cells slots st q ce a1 a2 a3 a4 a5 a6 a7 a8
  rw [hQ]
  exact vx_out (fun x hx => (h0 x hx).elim) X.lk a6 a7 a8 (fun t ht hW => ⟨⟨f, hp, by rw [ht]; exact a1⟩, a2.F ht⟩) a2.2.2 (by omega) (by omega)
/-! throws -/
theorem V_throwS (X : CX K cc RX5 Ts nL fr lo) (hl : (kL K).stackTraces = false) {px : String → Wo → Prop} (hT : TQ K px) (cls text : String) (ik is ic : Nat) (hp : px cls f) (hcls : Bundle.fit cls = true) (hk : Cond.classLink RX5 ik cls ∈ Ts) (hini : Cond.initialized cls ∈ Ts) (hs : (is, text) ∈ xS) (hg1 : ∀ w ∈ (vx_atS RX5 ic cls ["java/lang/RuntimeException", "java/lang/Exception"]).filter goodWord, w ∈ Ts) (hg2 : ∀ w ∈ (vx_atS RX5 ic cls ["java/lang/RuntimeException", "java/lang/Exception"]).filter (fun w => !goodWord w), w ∈ xC) (hgood : ∀ w ∈ Cond.classLink RX5 ik cls :: Cond.initialized cls :: vx_atS RX5 ic cls ["java/lang/RuntimeException", "java/lang/Exception"], vx_ot w = true)
    (d0 : decode cc pc = .ok (.new ik, 3)) (d3 : decode cc (pc + 3) = .ok (.dup, 1)) (d4 : decode cc (pc + 4) = .ok (.ldc is, 2)) (d6 : decode cc (pc + 6) = .ok (.invokespecial ic, 3)) (d9 : decode cc (pc + 9) = .ok (.athrow, 1))
    (hfr : 5 < fr) (hlo : (st.map fun v => v.category).sum + 82 ≤ lo) (hkc : 1 ≤ kc) (hks : 6 ≤ ks) : V K f kc ks pc lv st := by
  obtain ⟨h0, Qc, hQ⟩ := hT
  intro H locs ls cells slots a1 a2 a3 a4 a5
  show W _ _ _ _ _ _ _ _ _ _ _ _ _ _ (kQ K) _
  rw [hQ]
  exact vx_throwS (names := ["java/lang/RuntimeException", "java/lang/Exception"]) X.1 X.2.1 hl X.own hcls (by decide +kernel) (X.hts _ hk) (X.hts _ hini) (X.kk.2.2.2.2.2.2.2.2.2.2 _ hs) (vx_hat (fun w hw => X.hts w (hg1 w hw)) hg2 (fun w hw => va_Nw.use (by have h9 := xC_cd w hw; cases w <;> first | rfl | simp [isCD] at h9) (X.kk.2.2.2.2.2.2.2.2.1 w hw))) hgood X.kk.2.2.2.1 X.kk.2.2.2.2.1 a2 (by rw [X.2.2.1]; exact a3.1.1) d0 d3 d4 d6 d9 (fun x hx => (h0 x hx).elim) (by rw [X.rm]; exact hfr) (by rw [X.rm]; exact hlo) (by rw [X.rm]; show _ ≤ kmc K; omega) (by rw [X.rm]; show _ ≤ kms K; omega) X.lk
    (fun t hal hz hq => ⟨⟨f, hp, fun a u x hx => ⟨(a1 a u x hx).1.kept (hq a (a1.lt hx)), (a1 a u x hx).2⟩⟩, ⟨Nat.le_trans a2.1 hz, fun q h1 h2 => (hq q (Nat.lt_of_lt_of_le h1 a2.1)).trans (a2.2.1 q h1 h2)⟩⟩) a2.2.2 (by omega) (by omega)
theorem xg_ia : ∀ w ∈ (vx_atS RX5 37 "java/lang/IllegalArgumentException" ["java/lang/RuntimeException", "java/lang/Exception"]).filter (fun w => !goodWord w), w ∈ xC := fun _ h => List.mem_append_left _ h
theorem xg_is : ∀ w ∈ (vx_atS RX5 48 "java/lang/IllegalStateException" ["java/lang/RuntimeException", "java/lang/Exception"]).filter (fun w => !goodWord w), w ∈ xC := fun _ h => List.mem_append_right _ (List.mem_append_left _ h)
theorem xg_ob : ∀ w ∈ (vx_atS RX5 204 "java/lang/IndexOutOfBoundsException" ["java/lang/RuntimeException", "java/lang/Exception"]).filter (fun w => !goodWord w), w ∈ xC := fun _ h => List.mem_append_right _ (List.mem_append_right _ (List.mem_append_left _ h))
theorem xo_ia : ∀ w ∈ Cond.classLink RX5 33 "java/lang/IllegalArgumentException" :: Cond.initialized "java/lang/IllegalArgumentException" :: vx_atS RX5 37 "java/lang/IllegalArgumentException" ["java/lang/RuntimeException", "java/lang/Exception"], vx_ot w = true := by decide +kernel
theorem xo_is : ∀ w ∈ Cond.classLink RX5 44 "java/lang/IllegalStateException" :: Cond.initialized "java/lang/IllegalStateException" :: vx_atS RX5 48 "java/lang/IllegalStateException" ["java/lang/RuntimeException", "java/lang/Exception"], vx_ot w = true := by decide +kernel
theorem xo_ob : ∀ w ∈ Cond.classLink RX5 200 "java/lang/IndexOutOfBoundsException" :: Cond.initialized "java/lang/IndexOutOfBoundsException" :: vx_atS RX5 204 "java/lang/IndexOutOfBoundsException" ["java/lang/RuntimeException", "java/lang/Exception"], vx_ot w = true := by decide +kernel
/-! Math -/
theorem V_max (X : CX K cc own Ts nL fr lo) {index : Nat} {x y : Int32} (h1 : Cond.methodLink own index Lib.Math.max.name ∈ Ts) (h2 : Cond.static Lib.Math.max.name ∈ Ts) (h3 : Cond.initialized "java/lang/Math" ∈ Ts) (h4 : Cond.code Lib.Math.max.name Lib.Math.max.code 2 (some .int) ∈ Ts) (hfr : 1 ≤ fr) (hlo : (st.map fun v => v.category).sum + 13 ≤ lo) (hdg : decode cc pc = .ok (.invokestatic index, 3)) (k : V K f kc ks (pc + 3) lv (.int (if x < y then y else x) :: st)) : V K f kc ks pc lv (.int y :: .int x :: st) := fun H locs ls cells slots a1 a2 a3 a4 a5 => va_mmax X.1 X.2.1 (by rw [X.2.2.1]; exact a3.1.1.symm) X.own (X.hts _ h1) (X.hts _ h2) (X.hts _ h3) (X.hts _ h4) (by rw [X.rm]; exact hfr) (by rw [X.rm]; exact hlo) (by rw [X.rm]; show _ ≤ kmc K; omega) (by rw [X.rm]; show _ ≤ kms K; omega) hdg (k H locs ls cells slots a1 a2 a3 a4 a5)
theorem V_min (X : CX K cc own Ts nL fr lo) {index : Nat} {x y : Int32} (h1 : Cond.methodLink own index Lib.Math.min.name ∈ Ts) (h2 : Cond.static Lib.Math.min.name ∈ Ts) (h3 : Cond.initialized "java/lang/Math" ∈ Ts) (h4 : Cond.code Lib.Math.min.name Lib.Math.min.code 2 (some .int) ∈ Ts) (hfr : 1 ≤ fr) (hlo : (st.map fun v => v.category).sum + 13 ≤ lo) (hdg : decode cc pc = .ok (.invokestatic index, 3)) (k : V K f kc ks (pc + 3) lv (.int (if y < x then y else x) :: st)) : V K f kc ks pc lv (.int y :: .int x :: st) := fun H locs ls cells slots a1 a2 a3 a4 a5 => va_mmin X.1 X.2.1 (by rw [X.2.2.1]; exact a3.1.1.symm) X.own (X.hts _ h1) (X.hts _ h2) (X.hts _ h3) (X.hts _ h4) (by rw [X.rm]; exact hfr) (by rw [X.rm]; exact hlo) (by rw [X.rm]; show _ ≤ kmc K; omega) (by rw [X.rm]; show _ ≤ kms K; omega) hdg (k H locs ls cells slots a1 a2 a3 a4 a5)
theorem V_abs (X : CX K cc own Ts nL fr lo) {index : Nat} {x : Int32} (h1 : Cond.methodLink own index Lib.Math.abs.name ∈ Ts) (h2 : Cond.static Lib.Math.abs.name ∈ Ts) (h3 : Cond.initialized "java/lang/Math" ∈ Ts) (h4 : Cond.code Lib.Math.abs.name Lib.Math.abs.code 1 (some .int) ∈ Ts) (hfr : 1 ≤ fr) (hlo : (st.map fun v => v.category).sum + 13 ≤ lo) (hdg : decode cc pc = .ok (.invokestatic index, 3)) (k : V K f kc ks (pc + 3) lv (.int (if 0 ≤ x then x else 0 - x) :: st)) : V K f kc ks pc lv (.int x :: st) := fun H locs ls cells slots a1 a2 a3 a4 a5 => va_mabs X.1 X.2.1 (by rw [X.2.2.1]; exact a3.1.1.symm) X.own (X.hts _ h1) (X.hts _ h2) (X.hts _ h3) (X.hts _ h4) (by rw [X.rm]; exact hfr) (by rw [X.rm]; exact hlo) (by rw [X.rm]; show _ ≤ kmc K; omega) (by rw [X.rm]; show _ ≤ kms K; omega) hdg (k H locs ls cells slots a1 a2 a3 a4 a5)
theorem V_ldcM (X : CX K cc own Ts nL fr lo) {index : Nat} (hlink : Cond.classLink own index "[Ljava/lang/Object;" ∈ Ts) (hdg : decode cc pc = .ok (.ldc index, 2)) (k : V K f kc ks (pc + 2) lv (.ref (gM (kG K)) :: st)) : V K f kc ks pc lv st := fun H locs ls cells slots a1 a2 a3 a4 a5 => va_ldcM X.1 X.2.1 X.own (X.hts _ hlink) X.kk.2.2.2.2.2.1 hdg (k H locs ls cells slots a1 a2 a3 a4 a5)
theorem w_recvQ (X : CX K cc own Ts nL fr lo) {a n : Nat} {t : Tg} {g : Nat → Option Nat} {H : Heap} (a1 : w_H (kG K) f H) (he : f a = some (t, oQ (kG K) n g)) : ∃ cell : Cell, H[a]? = some cell ∧ cell.vm.isStatics = false ∧ (kS K).vm.findClass "[Ljava/lang/Object;" = some cell.cls := by
  rcases (a1 a t _ he).1 with h | ⟨-, ⟨g', e⟩, cell, b1, b2, b3, b4, b5⟩
  · exact ⟨_, h, rfl, va_nmO (X.kk.2.1.2 3 _ rfl).2 (by decide)⟩
  · refine ⟨cell, b1, ?_, by rw [b2]; exact va_nmO (X.kk.2.1.2 3 _ rfl).2 (by decide)⟩
    cases hv : cell.vm <;> first | rfl | exact absurd hv (b5 _)
theorem V_getC (X : CX K cc own Ts nL fr lo) {index a n : Nat} {t : Tg} {g : Nat → Option Nat} (he : f a = some (t, oQ (kG K) n g)) (hlink : Cond.methodLink own index ⟨"java/lang/Object", "getClass", "()Ljava/lang/Class;"⟩ ∈ Ts) (hsel : Cond.selects "[Ljava/lang/Object;" ⟨"java/lang/Object", "getClass", "()Ljava/lang/Class;"⟩ ⟨"java/lang/Object", "getClass", "()Ljava/lang/Class;"⟩ ∈ Ts) (hinst : Cond.instanceMethod ⟨"java/lang/Object", "getClass", "()Ljava/lang/Class;"⟩ ∈ Ts) (hnat : Cond.native ⟨"java/lang/Object", "getClass", "()Ljava/lang/Class;"⟩ ∈ Ts) (hfr : 1 ≤ fr) (hlo : (st.map fun v => v.category).sum + 14 ≤ lo) (hdg : decode cc pc = .ok (.invokevirtual index, 3)) (k : V K f kc ks (pc + 3) lv (.ref (gM (kG K)) :: st)) : V K f kc ks pc lv (.ref a :: st) := fun H locs ls cells slots a1 a2 a3 a4 a5 => va_getC (C := "[Ljava/lang/Object;") X.1 X.2.1 (by rw [X.2.2.1]; exact a3.1.1.symm) X.own (X.hts _ hlink) (va_Dc.use X.kk.2.2.2.2.2.2.1) (X.hts _ hsel) (X.hts _ hinst) (X.hts _ hnat) X.kk.2.2.2.2.2.1 (w_recvQ X a1 he) (by rw [X.rm]; exact hfr) (by rw [X.rm]; exact hlo) hdg (k H locs ls cells slots a1 a2 a3 a4 a5)
theorem V_castQ (X : CX K cc own Ts nL fr lo) {index a n : Nat} {t : Tg} {g : Nat → Option Nat} (he : f a = some (t, oQ (kG K) n g)) (hlink : Cond.classLink own index "[Ljava/lang/Object;" ∈ Ts) (hdg : decode cc pc = .ok (.checkcast index, 3)) (k : V K f kc ks (pc + 3) lv (.ref a :: st)) : V K f kc ks pc lv (.ref a :: st) := fun H locs ls cells slots a1 a2 a3 a4 a5 T hT X0 => by
  obtain ⟨cell, h1, h2, h3⟩ := w_recvQ X a1 he
  obtain ⟨vm', X', stp⟩ := X0.checkcastYes X.1 X.own (X.hts _ hlink) (by rw [hT]; exact h1) h2 h3 (va_asg _ _) (g := F0 (kM K) pc ls (.ref a :: st)) rfl rfl (by rw [X.2.1]; exact hdg)
  obtain ⟨t2, b1, b2⟩ := k H locs ls cells slots a1 a2 a3 a4 a5 (T.setVm vm') hT X'
  exact ⟨t2, stp t2 b1, b2⟩
theorem V_cast (X : CX K cc own Ts nL fr lo) {index a ci : Nat} {t : Tg} {fs : List Value} {C : String} {T : u_T} {N : Nat} (he : f a = some (t, .inr (ci, fs))) (hc : vwCl[ci]? = some (C, T, N)) (hlink : Cond.classLink own index C ∈ Ts) (hdg : decode cc pc = .ok (.checkcast index, 3)) (k : V K f kc ks (pc + 3) lv (.ref a :: st)) : V K f kc ks pc lv (.ref a :: st) := fun H locs ls cells slots a1 a2 a3 a4 a5 T hT X0 => by
  obtain ⟨cell, h1, h2, h3⟩ := va_recv (q0 := 0) (ci := ci) (fs := fs) X.kk.2.1 (a1.P he (w_nk (show (0 : Nat) ≠ 5 by decide))) hc rfl
  obtain ⟨vm', X', stp⟩ := X0.checkcastYes X.1 X.own (X.hts _ hlink) (by rw [hT]; exact h1) h2 h3 (va_asg _ _) (g := F0 (kM K) pc ls (.ref a :: st)) rfl rfl (by rw [X.2.1]; exact hdg)
  obtain ⟨t2, b1, b2⟩ := k H locs ls cells slots a1 a2 a3 a4 a5 (T.setVm vm') hT X'
  exact ⟨t2, stp t2 b1, b2⟩
theorem V_copyq (X : CX K cc own Ts nL fr lo) {index a a0 n0 n1 : Nat} {u0 u1 : Tg} {gf g : Nat → Option Nat} {C : String} (ha0 : f a0 = some (u0, oQ (kG K) n0 gf)) (hu0 : u0.1 ≠ 99) (ha1 : f a = some (u1, oQ (kG K) n1 g)) (hu : u1.1 ≠ 99) (hlink : Cond.methodLink own index arraycopyName ∈ Ts) (hnat : Cond.native arraycopyName ∈ Ts) (hstat : Cond.static arraycopyName ∈ Ts) (hini : Cond.initialized "java/lang/System" ∈ Ts)
    {sp dp n : Int32} (h1 : ¬ sp < 0) (h2 : ¬ dp < 0) (h3 : ¬ n < 0) (h4 : sp.toNatClampNeg + n.toNatClampNeg ≤ n0) (h5 : dp.toNatClampNeg + n.toNatClampNeg ≤ n1) (hel0 : ∀ i : Nat, i < n.toNatClampNeg → ∀ y : Nat, gf (sp.toNatClampNeg + i) = some y → ∃ (t : Tg) (ci : Nat) (vs : List Value) (T : u_T) (N : Nat), f y = some (t, .inr (ci, vs)) ∧ vwCl[ci]? = some (C, T, N)) (hca : va_Nw (.castable C "java/lang/Object") (kS K))
    (hfr : 1 ≤ fr) (hlo : (st.map fun v => v.category).sum + (nativeFrameWords "java/lang/System" "arraycopy" 5 + 11) ≤ lo) (hdg : decode cc pc = .ok (.invokestatic index, 3))
    (k : V K (w_up f a u1 (oQ (kG K) n1 (va_cpy gf g sp.toNatClampNeg dp.toNatClampNeg n.toNatClampNeg))) kc ks (pc + 3) lv st) : V K f kc ks pc lv (.int n :: .int dp :: .ref a :: .int sp :: .ref a0 :: st) := fun H locs ls cells slots a1 a2 a3 a4 a5 => by
  have hown := a1.own ha1 hu
  have hasg := fun (comp c0 : ClassId) => vb_asgC (s := kS K) hca comp c0
  have hel : ∀ i : Nat, i < n.toNatClampNeg → ∀ y : Nat, gf (sp.toNatClampNeg + i) = some y → ∃ cellV : Cell, H[y]? = some cellV ∧ cellV.vm.isStatics = false ∧ (kS K).vm.findClass C = some cellV.cls := fun i hi y hy => by
    obtain ⟨t, ci, vs, T, N, e1, e2⟩ := hel0 i hi y hy
    exact va_recv (q0 := 0) (ci := ci) (fs := vs) X.kk.2.1 (a1.P e1 (w_nk (show (0 : Nat) ≠ 5 by decide))) e2 rfl
  have nn : ∀ z : Int32, ¬ z < 0 → z.toInt = (z.toNatClampNeg : Int) := by
    intro z hz
    have hz0 : (0 : Int) ≤ z.toInt := by
      have := Int32.not_lt.mp hz
      simpa using Int32.le_iff_toInt_le.mp this
    show z.toInt = ((z.toInt.toNat : Nat) : Int)
    omega
  intro T hT X0
  have hcs : H[a0]? = some (vp_cell (gO (kG K)) (n0, .inr (.inr (.inr (.inr gf))))) := a1.atT ha0 hu0
  have hcd : H[a]? = some (vp_cell (gO (kG K)) (n1, .inr (.inr (.inr (.inr g))))) := a1.atT ha1 hu
  obtain ⟨-, k0, hk0, cm0, hkk0⟩ := (X.kk.2.1.2 3 _ rfl).1 n0 (fun j => va_rf (gf j))
  obtain ⟨-, k1, hk1, cm1, hkk1⟩ := (X.kk.2.1.2 3 _ rfl).1 n1 (fun j => va_rf (g j))
  obtain ⟨vm', X', step⟩ := X0.arraycopy X.1 X.own (X.hts _ hlink) (X.hts _ hnat) (X.hts _ hstat) (X.hts _ hini) (src := a0) (dst := a) (cs := vp_cell (gO (kG K)) (n0, .inr (.inr (.inr (.inr gf))))) (cd := vp_cell (gO (kG K)) (n1, .inr (.inr (.inr (.inr g))))) (srcPos := sp) (destPos := dp) (n := n) (by rw [hT]; exact hcs) (by rw [hT]; exact hcd)
    (fun _ h => by cases h) (fun _ h => by cases h) (fun h => by cases h) (fun h => by cases h) hk0 hk1 hkk0 hkk1 rfl h1 h2 h3
    (by rw [nn sp h1, nn n h3]; show ¬ _ > ((arrV (gO (kG K)) n0 (fun j => va_rf (gf j))).slots.size : Int); rw [arrV_size]; omega)
    (by rw [nn dp h2, nn n h3]; show ¬ _ > ((arrV (gO (kG K)) n1 (fun j => va_rf (g j))).slots.size : Int); rw [arrV_size]; omega)
    (fun vm₁ hal i hi => by
      have e : (vp_cell (gO (kG K)) (n0, .inr (.inr (.inr (.inr gf))))).slots.getD (sp.toNatClampNeg + i) .null = va_rf (gf (sp.toNatClampNeg + i)) := by
        show (arrV (gO (kG K)) n0 (fun j => va_rf (gf j))).slots.getD _ _ = _
        rw [Array.getD_eq_getD_getElem?, arrV_read _ _ (by omega)]
        rfl
      rw [e]
      cases hy : gf (sp.toNatClampNeg + i) with
      | none => exact ⟨rfl, trivial⟩
      | some y =>
        obtain ⟨cellV, g1, g2, g3⟩ := hel i hi y hy
        obtain ⟨kA, comp, r1, r2, r3, -⟩ := (X.kk.2.1.2 3 _ rfl).2
        cases hk1.symm.trans r1
        cases hkk1.symm.trans r2
        obtain ⟨kC, hkC, -⟩ := Vm.findClass_spec g3
        obtain ⟨kE, hkE, -⟩ := Vm.findClass_spec r3
        obtain ⟨kC', hkC', -⟩ := hal.2.2 _ _ hkC
        obtain ⟨kE', hkE', -⟩ := hal.2.2 _ _ hkE
        refine ⟨rfl, cellV, (show T.heap[y]? = some cellV by rw [hT]; exact g1), (fun q h => by rw [h] at g2; cases g2), ⟨kC', hkC'⟩, ?_, ?_⟩
        · exact ⟨kE', hkE'⟩
        · show vm₁.assignable _ _ = true
          rw [hal.assignable]
          exact hasg _ _ r3 g3)
    (g := F0 (kM K) pc ls (.int n :: .int dp :: .ref a :: .int sp :: .ref a0 :: st)) rfl (by rw [X.2.2.1]; exact a3.1.1) (rest := st) rfl (by rw [X.2.1]; exact hdg) (by rw [X.rm]; exact hfr) (by rw [X.rm]; show 2 * 0 + _ + _ ≤ lo; omega)
  have e1 : copied (vp_cell (gO (kG K)) (n0, .inr (.inr (.inr (.inr gf))))) (vp_cell (gO (kG K)) (n1, .inr (.inr (.inr (.inr g))))) sp dp n = vp_cell (gO (kG K)) (n1, .inr (.inr (.inr (.inr (va_cpy gf g sp.toNatClampNeg dp.toNatClampNeg n.toNatClampNeg))))) := by
    rw [vp_cell_q, vp_cell_q, vp_cell_q]
    exact va_copied (fun z => va_rf z) (gO (kG K)) (gO (kG K)) gf g h4
  rw [e1] at X' step
  have hl : a < H.size := (Array.getElem?_eq_some_iff.mp hcd).1
  have hheap : ((T.setVm vm').setCell a (vp_cell (gO (kG K)) (n1, .inr (.inr (.inr (.inr (va_cpy gf g sp.toNatClampNeg dp.toNatClampNeg n.toNatClampNeg))))))).heap = H.setIfInBounds a (vp_cell (gO (kG K)) (n1, .inr (.inr (.inr (.inr (va_cpy gf g sp.toNatClampNeg dp.toNatClampNeg n.toNatClampNeg)))))) := by rw [← hT]; rfl
  have oq : ∀ q : Nat, q ≠ a → (H.setIfInBounds a (vp_cell (gO (kG K)) (n1, .inr (.inr (.inr (.inr (va_cpy gf g sp.toNatClampNeg dp.toNatClampNeg n.toNatClampNeg)))))))[q]? = H[q]? := fun q hq => by simp [Array.getElem?_setIfInBounds, Ne.symm hq]
  obtain ⟨t, b1, b2⟩ := k _ _ ls cells slots (a1.put hown (show (H.setIfInBounds a _)[a]? = some _ by simp [Array.getElem?_setIfInBounds, hl]) oq) ⟨by simp; exact a2.1, fun q g1 g2 => by
      rw [oq q (fun e => g2 (by rw [e]; exact hown))]
      exact a2.2.1 q g1 g2, fun q hq => by
      rcases List.mem_append.mp hq with h | h
      · exact a2.2.2 q h
      · obtain ⟨z, -, hz⟩ := List.mem_map.mp h
        rw [← hz]
        exact hown⟩ a3 a4 a5 _ hheap X'
  exact ⟨t, step t b1, b2⟩
end VR
/-! starts -/
theorem Ct.of {l : Launch} {y : MethodName} {ws ws' : List Cond} {cc : ByteArray} {maxL fr lo mc ms : Nat} {ret : Option FieldType} {G : GG} {as : List Value} {f : Wo} {post : Option Value → Wo → Prop} {lv : List (Nat × Value)} (hy : plainName y.cls = true) (hw : ws = Cond.code y cc maxL ret :: ws') (hlen : (lg_sl as).length ≤ maxL) (hlv : lv_args 0 as = lv) (hcat : ∀ q ∈ lv, q.2.category = 1) (body : ∀ K : VK, CX K cc y.cls ws maxL fr lo → kL K = l → kG K = G → RQ K ret post → (kY K).name = y.name → V K f mc ms 0 lv []) : Ct l y ws fr lo G as f post mc ms := by
  refine Met.ofW (cc := cc) (maxL := maxL) (ret := ret) hy hw ?_
  intro p e s m args below meth c s₁ B hml hv
  obtain ⟨rfl, hKK, hf⟩ := hv
  have hX : CX ((p, l, e, (headSpec ws (rmk fr lo mc ms)).room, s), (m, as.toArray, below, meth, c), (G, maxL, mc, ms, MQ below (CQ G post) as.toArray s mc ms (gA G))) cc y.cls ws maxL fr lo := ⟨B.exec, B.bytes, hml, findClass_of_methodNamed B.named, atoms_spec (ws := ws) B.pre, hKK, B.notSynchronized, rfl, rfl⟩
  have hl := lv_entry as (n := maxL) hlen
  rw [lg_entry_eq]
  subst hlv
  exact body _ hX rfl rfl ⟨B.returns, fun _ _ _ _ _ h => h⟩ (name_of_methodNamed B.named B.method).1 s.heap [] _ 0 0 hf va_S.rf ⟨hl, hcat⟩ (by show 0 + mc ≤ mc; omega) (by show 0 + ms ≤ ms; omega)
theorem Cx.of {l : Launch} {y : MethodName} {ws ws' : List Cond} {cc : ByteArray} {maxL fr lo mc ms : Nat} {ret : Option FieldType} {G : GG} {as : List Value} {f : Wo} {post : Option Value → Wo → Prop} {px : String → Wo → Prop} {lv : List (Nat × Value)} (hy : plainName y.cls = true) (hw : ws = Cond.code y cc maxL ret :: ws') (hlen : (lg_sl as).length ≤ maxL) (hlv : lv_args 0 as = lv) (hcat : ∀ q ∈ lv, q.2.category = 1) (body : ∀ K : VK, CX K cc y.cls ws maxL fr lo → kL K = l → kG K = G → RQ K ret post → TQ K px → V K f mc ms 0 lv []) : Cx l y ws fr lo G as f post px mc ms := by
  refine vx_ofW (cc := cc) (maxL := maxL) (ret := ret) hy hw ?_
  intro p e s m args below meth c s₁ B hml hxt hv
  obtain ⟨rfl, hKK, hf⟩ := hv
  have hX : CX ((p, l, e, (headSpec ws (rmk fr lo mc ms)).room, s), (m, as.toArray, below, meth, c), (G, maxL, mc, ms, vx_MQ below (CQ G post) (CT G px) as.toArray s mc ms (gA G))) cc y.cls ws maxL fr lo := ⟨B.exec, B.bytes, hml, findClass_of_methodNamed B.named, atoms_spec (ws := ws) B.pre, hKK, B.notSynchronized, rfl, rfl⟩
  have hl := lv_entry as (n := maxL) hlen
  rw [lg_entry_eq]
  subst hlv
  exact body _ hX rfl rfl ⟨B.returns, fun _ _ _ _ _ h => vx_ret h⟩ ⟨hxt, CQ G post, rfl⟩ s.heap [] _ 0 0 hf va_S.rf ⟨hl, hcat⟩ (by show 0 + mc ≤ mc; omega) (by show 0 + ms ≤ ms; omega)
