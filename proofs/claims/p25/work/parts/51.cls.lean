/-! ===== sums of the library, and what the class's rows need ===== -/
theorem V_ldcw {K : VK} {cc : ByteArray} {own : String} {Ts : List Cond} {nL fr lo : Nat} {f : Wo} {kc ks pc : Nat} {lv : List (Nat × Value)} {st : List Value} (X : CX K cc own Ts nL fr lo) {i : Nat} {v : Int32} (hc : Jvm.Cond.constant own i v ∈ Ts) (hdg : decode cc pc = .ok (.ldc_w i, 3)) (k : V K f kc ks (pc + 3) lv (.int v :: st)) : V K f kc ks pc lv st := fun H locs ls cells slots a1 a2 a3 a4 a5 => lv_ldcw X.1 X.2.1 X.2.2.2.1 (X.2.2.2.2.1 _ hc) hdg (k H locs ls cells slots a1 a2 a3 a4 a5)
theorem dm0 {n : Nat → Nat} {k : Nat} (h : k < n 0) : dom n (0, k) := Or.inl ⟨Nat.zero_le _, h⟩
theorem dm1 {n : Nat → Nat} {k : Nat} (h : k < n 1) : dom n (1, k) := Or.inl ⟨by show 1 ≤ 2; omega, h⟩
theorem dm2 {n : Nat → Nat} {k : Nat} (h : k < n 2) : dom n (2, k) := Or.inl ⟨by show 2 ≤ 2; omega, h⟩
theorem dm14 {n : Nat → Nat} : dom n (14, 0) := Or.inr ⟨Or.inl rfl, rfl⟩
theorem dm15 {n : Nat → Nat} : dom n (15, 0) := Or.inr ⟨Or.inr rfl, rfl⟩
theorem dl11 {n : Nat → Nat} {k : Nat} (h : k < n 1) : dol n (11, k) := Or.inl ⟨rfl, h⟩
theorem dl12 {n : Nat → Nat} {k : Nat} (h : k < n 2) : dol n (12, k) := Or.inr (Or.inl ⟨rfl, h⟩)
theorem dl13 {n : Nat → Nat} {k : Nat} (h : k < 5) : dol n (13, k) := Or.inr (Or.inr ⟨rfl, h⟩)
theorem RC.el {G : GG} {al : Tg → Nat} {fi : Nat → Nat → Int32} {z : CZ} {f : Wo} (h : RC G al fi z f) {q : Tg} (hq : dol (zN z) q) {i j : Nat} (hi : (zL z q)[i]? = some j) : j < zN z (ek q) := h.1.1 q hq j (List.mem_of_getElem? hi)
theorem RC.main {G : GG} {al : Tg → Nat} {fi : Nat → Nat → Int32} {z : CZ} {f : Wo} (h : RC G al fi z f) {j i : Nat} (hj : j < 3) (hi : i < zN z j) : (zL z (13, j))[i]? = some i := by
  rw [h.1.2.2.1 j hj, List.getElem?_range hi]
theorem RC.len {G : GG} {al : Tg → Nat} {fi : Nat → Nat → Int32} {z : CZ} {f : Wo} (h : RC G al fi z f) {j : Nat} (hj : j < 3) : (zL z (13, j)).length = zN z j := by
  rw [h.1.2.2.1 j hj, List.length_range]
theorem RC.n1 {G : GG} {al : Tg → Nat} {fi : Nat → Nat → Int32} {z : CZ} {f : Wo} (h : RC G al fi z f) {j : Nat} (hj : j < 3) : zN z j ≤ 1000 := h.1.2.2.2.2 j hj
/-- the library's count of bits -/
def us (x y : Int32) : Int32 := (x.toUInt32 >>> (y.toUInt32 &&& Int32.toUInt32 31)).toInt32
def bc1 (x : Int32) : Int32 := x - (us x 1 &&& 1431655765)
def bc2 (x : Int32) : Int32 := (bc1 x &&& 858993459) + (us (bc1 x) 2 &&& 858993459)
def bc3 (x : Int32) : Int32 := (bc2 x + us (bc2 x) 4) &&& 252645135
def bc4 (x : Int32) : Int32 := bc3 x + us (bc3 x) 8
def bcI (x : Int32) : Int32 := (bc4 x + us (bc4 x) 16) &&& 63
set_option maxHeartbeats 4000000 in
set_option maxRecDepth 100000 in
theorem c_J6_bitCount_0f7a4 (l : Launch) (G : GG) (f : Wo) (x : Int32) : Cp l yJ6_bitCount_0f7a4 wsJ6_bitCount_0f7a4 1 44 G [.int x] f (.int (bcI x)) := by
  refine Ct.of (cc := cJ6_bitCount_0f7a4) (maxL := 1) (ret := (some .int)) (by decide) rfl (Nat.le_of_ble_eq_true rfl) (lv := [(0, _)]) rfl (by simp [Value.category]) ?_
  intro K X hL hG hr hnm
  subst hL; subst hG
  refine V_iload_n X rfl dJ6_bitCount_0f7a4_0 ?_
  refine V_iload_n X rfl dJ6_bitCount_0f7a4_1 ?_
  refine V_iconst X (v := 1) (by decide) dJ6_bitCount_0f7a4_2 ?_
  refine V_iushr X rfl dJ6_bitCount_0f7a4_3 ?_
  refine V_ldcw X (v := 1431655765) (by decide +kernel) dJ6_bitCount_0f7a4_4 ?_
  refine V_iand X dJ6_bitCount_0f7a4_7 ?_
  refine V_isub X dJ6_bitCount_0f7a4_8 ?_
  refine V_istore_n X (lv' := [(0, _)]) (by decide) rfl dJ6_bitCount_0f7a4_9 ?_
  refine V_iload_n X rfl dJ6_bitCount_0f7a4_10 ?_
  refine V_ldcw X (v := 858993459) (by decide +kernel) dJ6_bitCount_0f7a4_11 ?_
  refine V_iand X dJ6_bitCount_0f7a4_14 ?_
  refine V_iload_n X rfl dJ6_bitCount_0f7a4_15 ?_
  refine V_iconst X (v := 2) (by decide) dJ6_bitCount_0f7a4_16 ?_
  refine V_iushr X rfl dJ6_bitCount_0f7a4_17 ?_
  refine V_ldcw X (v := 858993459) (by decide +kernel) dJ6_bitCount_0f7a4_18 ?_
  refine V_iand X dJ6_bitCount_0f7a4_21 ?_
  refine V_iadd X dJ6_bitCount_0f7a4_22 ?_
  refine V_istore_n X (lv' := [(0, _)]) (by decide) rfl dJ6_bitCount_0f7a4_23 ?_
  refine V_iload_n X rfl dJ6_bitCount_0f7a4_24 ?_
  refine V_iload_n X rfl dJ6_bitCount_0f7a4_25 ?_
  refine V_iconst X (v := 4) (by decide) dJ6_bitCount_0f7a4_26 ?_
  refine V_iushr X rfl dJ6_bitCount_0f7a4_27 ?_
  refine V_iadd X dJ6_bitCount_0f7a4_28 ?_
  refine V_ldcw X (v := 252645135) (by decide +kernel) dJ6_bitCount_0f7a4_29 ?_
  refine V_iand X dJ6_bitCount_0f7a4_32 ?_
  refine V_istore_n X (lv' := [(0, _)]) (by decide) rfl dJ6_bitCount_0f7a4_33 ?_
  refine V_iload_n X rfl dJ6_bitCount_0f7a4_34 ?_
  refine V_iload_n X rfl dJ6_bitCount_0f7a4_35 ?_
  refine V_bipush X (v := 8) (by decide) dJ6_bitCount_0f7a4_36 ?_
  refine V_iushr X rfl dJ6_bitCount_0f7a4_38 ?_
  refine V_iadd X dJ6_bitCount_0f7a4_39 ?_
  refine V_istore_n X (lv' := [(0, _)]) (by decide) rfl dJ6_bitCount_0f7a4_40 ?_
  refine V_iload_n X rfl dJ6_bitCount_0f7a4_41 ?_
  refine V_iload_n X rfl dJ6_bitCount_0f7a4_42 ?_
  refine V_bipush X (v := 16) (by decide) dJ6_bitCount_0f7a4_43 ?_
  refine V_iushr X rfl dJ6_bitCount_0f7a4_45 ?_
  refine V_iadd X dJ6_bitCount_0f7a4_46 ?_
  refine V_istore_n X (lv' := [(0, _)]) (by decide) rfl dJ6_bitCount_0f7a4_47 ?_
  refine V_iload_n X rfl dJ6_bitCount_0f7a4_48 ?_
  refine V_bipush X (v := 63) (by decide) dJ6_bitCount_0f7a4_49 ?_
  refine V_iand X dJ6_bitCount_0f7a4_51 ?_
  exact V_iret X hr (⟨rfl, rfl⟩) dJ6_bitCount_0f7a4_52
theorem xor_pos {x y : Int32} (hy : 0 ≤ y) : 0 ≤ x ^^^ y ↔ 0 ≤ x := by
  have hm : ∀ v : Int32, 0 ≤ v ↔ v.toBitVec.msb = false := fun v => by
    rw [Int32.le_iff_toInt_le, BitVec.msb_eq_toInt, decide_eq_false_iff_not, Int.not_lt]
    rfl
  rw [hm, hm, show (x ^^^ y).toBitVec = x.toBitVec ^^^ y.toBitVec from rfl, BitVec.msb_xor, (hm y).mp hy]
  simp
theorem sub_z {x y : Int32} : x - y = 0 ↔ y = x := by
  constructor
  · intro h
    have := congrArg (· + y) h
    simp at this
    exact this.symm
  · intro h; rw [h]; simp
theorem fdv {x y : Int32} (hy : 0 ≤ y) : Jvm.Free.JP.Math_floorDiv_II.val x y = downI x y := by
  unfold Jvm.Free.JP.Math_floorDiv_II.val downI
  by_cases h : x ^^^ y < 0
  · have h2 : ¬ 0 ≤ x := fun q => absurd h (Int32.not_lt.mpr ((xor_pos hy).mpr q))
    rw [if_pos h]
    by_cases h3 : x / y * y = x
    · rw [if_pos h3, if_pos (Or.inr (sub_z.mpr h3))]
    · rw [if_neg h3, if_neg (fun q => q.elim h2 (fun q => h3 (sub_z.mp q)))]
  · rw [if_neg h, if_pos (Or.inl ((xor_pos hy).mp (Int32.not_lt.mp h)))]
theorem V_fdiv {K : VK} {cc : ByteArray} {own : String} {Ts : List Cond} {nL fr lo : Nat} {f : Wo} {kc ks pc : Nat} {lv : List (Nat × Value)} {st : List Value} (X : CX K cc own Ts nL fr lo) {index : Nat} {x y : Int32} (hy : 0 ≤ y) (h0 : ¬ y = 0) (h1 : Cond.methodLink own index yJ9_floorDiv_7cf53 ∈ Ts) (h2 : Cond.static yJ9_floorDiv_7cf53 ∈ Ts) (h3 : Cond.initialized "java/lang/Math" ∈ Ts) (h4 : Cond.code yJ9_floorDiv_7cf53 cJ9_floorDiv_7cf53 3 (some .int) ∈ Ts) (hfr : 1 ≤ fr) (hcat : (st.map fun v => v.category).sum ≤ 8) (hlo : 8 + 14 ≤ lo) (hdg : decode cc pc = .ok (.invokestatic index, 3)) (k : V K f kc ks (pc + 3) lv (.int (downI x y) :: st)) : V K f kc ks pc lv (.int y :: .int x :: st) := fun H locs ls cells slots a1 a2 a3 a4 a5 T hT X0 => by
  have hc := X.hts _ h4
  obtain ⟨v, vm₁, ⟨U', ls', cc', sl'⟩, hW, X', ⟨⟨hv, hh⟩, e1, e2, e3⟩, stp⟩ := Jvm.LawKit.callS X0 X.1 X.own (X.hts _ h1) (X.hts _ h2) (X.hts _ h3) hc (by decide) (Jvm.Free.JP.Math_floorDiv_II.pays (len := 3) (W := 8) x y (Jvm.Free.XT.unparts hc (fun w hw => by
      rcases List.mem_cons.mp hw with h | h
      · subst h; exact X.hts _ h3
      · cases h)) (by rw [X.rm]; exact hfr) (by rw [X.rm]; exact hlo)) (g := F0 (kM K) pc ls (.int y :: .int x :: st)) rfl (by rw [X.2.2.1]; exact a3.1.1) (argsL := [.int x, .int y]) (rest := st) (fun sig hs => by
      have h9 := hds_J9_floorDiv_7cf53.2.2
      rw [hs] at h9
      exact (Option.some.inj h9).symm) rfl (by show 2 * 0 + _ ≤ 8; omega) (by rw [X.2.1]; exact hdg) (fun vm₁ hW => ⟨by rw [X.rm]; show _ ≤ kmc K; show cells + 0 ≤ _; omega, by rw [X.rm]; show slots + 0 ≤ kms K; omega, rfl, h0⟩)
  dsimp only [Pt.U, Pt.locs, Pt.cells, Pt.slots] at X' e1 e2 e3 stp hh
  rw [List.append_nil] at e1
  subst e1; subst e2; subst e3
  rw [fdv hy] at hv
  subst hv
  obtain ⟨t2, b1, b2⟩ := k H _ ls _ _ a1 a2 a3 a4 a5 U' (hh.trans hT) X'
  exact ⟨t2, stp t2 b1, b2⟩
