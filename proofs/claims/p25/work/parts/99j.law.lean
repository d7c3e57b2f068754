/-! ===== at the law's entry: what the tables and the statement give ===== -/
def z_D (c0 c1 c2 c3 c4 c5 : ClassId) (i0 i1 i2 i3 i4 i5 : Nat → Nat) : va_G := (fun k => match k with
  | 0 => c0 | 1 => c1 | 2 => c2 | 3 => c3 | 4 => c4 | _ => c5, fun k => match k with
  | 0 => i0 | 1 => i1 | 2 => i2 | 3 => i3 | 4 => i4 | _ => i5)
def z_2 (n e cI cJ cO mi b L : Nat) (xs : Nat → Int32) (sa : Nat → Nat) : Nat → Nat := fun k => match k with
  | 0 => n | 1 => e | 2 => cI | 3 => cI | 4 => cJ | 5 => cO | 6 => mi | 7 => b | 8 => L | k => if 1000 ≤ k then (xs (k - 1000)).toUInt32.toNat else sa (k - 100)
theorem z_x (x : Int32) : (UInt32.ofNat x.toUInt32.toNat).toInt32 = x := by
  rw [UInt32.ofNat_toNat]
  exact Int32.toInt32_toUInt32 x
theorem xC_in : ∀ w ∈ xC, w ∈ lw_tbl := by decide +kernel
theorem xC_ot : ∀ w ∈ xC, w.onTables = true := by decide +kernel
theorem xS_in : ∀ q ∈ xS, Cond.stringRef RX5 q.1 q.2 ∈ lw_tbl := by decide +kernel
theorem cfW_in : ∀ w ∈ cfW, w ∈ lw_tbl := by decide +kernel
theorem cfW_ot : ∀ w ∈ cfW, w.onTables = true := by decide +kernel
abbrev z_st : Term := Term.static "java/util/ArrayList" "DEFAULTCAPACITY_EMPTY_ELEMENTDATA" "[Ljava/lang/Object;"
set_option maxHeartbeats 4000000 in
set_option maxRecDepth 100000 in
theorem k_start {s : State} {args : Array Value} (hts : ∀ w ∈ lw_tbl, w.before args s = true) (hgv : (Jvm.Cond.and given_1 narrow_1).before args s = true) {b L : Nat} {xs : Nat → Int32} (hL : L ≤ 260) (hXs : va_X b L xs s s.heap) (hbl : b < s.heap.size) : ∃ G : GG, gN G = s.heap.size ∧ gB G = b ∧ KK G s s.heap ∧ ∃ f0 : Wo, w_H G f0 s.heap ∧ f0 (gE G) = some ((99, 0), oQ G 0 (fun _ => none)) ∧ ∀ a, a ≠ gE G → f0 a = none := by
  have hg := flat_of_before _ hgv
  obtain ⟨c0, i0, k0⟩ := u_known hts inJx4a65c (hts (.instantiable RJx4a65c 3) (by decide +kernel))
  obtain ⟨c1, i1, k1⟩ := u_known hts inX0 (hts (.instantiable RX0 5) (by decide +kernel))
  obtain ⟨c2, i2, k2⟩ := u_known hts inX1 (hts (.instantiable RX1 7) (by decide +kernel))
  obtain ⟨c3, i3, k3⟩ := u_known hts inX2 (hts (.instantiable RX2 5) (by decide +kernel))
  obtain ⟨c4, i4, k4⟩ := u_known hts inX3 (hts (.instantiable RX3 6) (by decide +kernel))
  obtain ⟨c5, i5, k5⟩ := u_known hts inX5 (hts (.instantiable RX5 5) (by decide +kernel))
  have arr : ∀ ty, (Cond.arrayClass ty).before args s = true → ∃ cA : ClassId, ArrOfT s cA ty ∧ s.vm.findClass ("[" ++ ty.toString) = some cA := fun ty h => by
    obtain ⟨c, k, comp, h1, h2, h3⟩ := Cond.arrayClass_spec h
    exact ⟨c, fun n z => ⟨fun k h => (by cases h), k, h2, comp, h3⟩, h1⟩
  obtain ⟨cI, aI1, aI2⟩ := arr .int (hts _ (by decide +kernel))
  obtain ⟨cJ, aJ1, aJ2⟩ := arr .long (hts _ (by decide +kernel))
  have hAO : (Cond.arrayOver (.object "java/lang/Object")).before args s = true := hts _ (by decide +kernel)
  obtain ⟨comp, cO, kO, o1, -, o3, o4, o5⟩ := Cond.arrayOver_spec hAO
  have hA : ∀ a : Nat, a < s.heap.size → ¬ s.heap.size ≤ a := fun a h => Nat.not_le.mpr h
  have hlen : (Term.length z_st).eval args s none [] s = some (.int (Int32.ofNat 0)) := Cond.eq_int (n := 0) (hg (.eq (.length z_st) (.int 0)) (by decide +kernel)) rfl
  obtain ⟨e, he, cell, t1, t2, t3, t4, t5, t6, t7⟩ := va_Tof (N := 0) (f := fun _ => .null) (A := fun q => s.heap.size ≤ q) (by decide) (hg (.arrayOf z_st (.object "java/lang/Object")) (by decide +kernel)) hlen (fun j hj => absurd hj (Nat.not_lt_zero j)) hA
  obtain ⟨e', c', cell', k', x1, x2, x3, x4, x5, x6, -⟩ := Cond.exactly_spec (hg (.exactly z_st "[Ljava/lang/Object;") (by decide +kernel))
  cases he.symm.trans x1
  cases t1.symm.trans x3
  have hcO : cell.cls = cO := x6.trans (Option.some.inj (x2.symm.trans ((show s.vm.findClass "[Ljava/lang/Object;" = s.vm.findClass ("[" ++ (FieldType.object "java/lang/Object").toString) by rw [show "[" ++ (FieldType.object "java/lang/Object").toString = "[Ljava/lang/Object;" from by decide]).trans o5)))
  obtain ⟨mi, hmi⟩ := va_Mi.of (hg (.isRef (.mirror "[Ljava/lang/Object;")) (by decide +kernel))
  have hse : ∀ q ∈ xS, ∃ a : Nat, (Term.string RX5 q.1).eval args s none [] s = some (.ref a) := by
    have hx : ∀ k : Nat, (Cond.exactly (.string RX5 k) "java/lang/String").before args s = true → ∃ a : Nat, (Term.string RX5 k).eval args s none [] s = some (.ref a) := fun k h => by
      obtain ⟨a, _, _, _, y1, -⟩ := Cond.exactly_spec h
      exact ⟨a, y1⟩
    intro q hq
    simp only [xS, List.mem_cons, List.not_mem_nil, or_false] at hq
    rcases hq with rfl | rfl | rfl | rfl | rfl | rfl | rfl | rfl | rfl | rfl | rfl | rfl | rfl <;> exact hx _ (hg _ (by decide +kernel))
  obtain ⟨sa, hsa⟩ : ∃ sa : Nat → Nat, ∀ q ∈ xS, (Term.string RX5 q.1).eval args s none [] s = some (.ref (sa q.1)) := by
    have h1 : ∀ k : Nat, ∃ a : Nat, (∃ q ∈ xS, q.1 = k) → (Term.string RX5 k).eval args s none [] s = some (.ref a) := fun k => by
      by_cases h : ∃ q ∈ xS, q.1 = k
      · obtain ⟨q, hq, rfl⟩ := h
        obtain ⟨a, ha⟩ := hse q hq
        exact ⟨a, fun _ => ha⟩
      · exact ⟨0, fun q => absurd q h⟩
    exact ⟨fun k => (h1 k).choose, fun q hq => (h1 q.1).choose_spec ⟨q, hq, rfl⟩⟩
  have hgx : ∀ g : va_G, gX (g, z_2 s.heap.size e cI cJ cO mi b L xs sa) = xs := fun g => funext fun i => by
    show (UInt32.ofNat (z_2 s.heap.size e cI cJ cO mi b L xs sa (1000 + i))).toInt32 = xs i
    have e1 : z_2 s.heap.size e cI cJ cO mi b L xs sa (1000 + i) = (xs i).toUInt32.toNat := by
      rw [Nat.add_comm]
      show (if 1000 ≤ i + 1000 then (xs (i + 1000 - 1000)).toUInt32.toNat else sa (i + 1000 - 100)) = _
      rw [if_pos (Nat.le_add_left _ _), Nat.add_sub_cancel]
    rw [e1, z_x]
  refine ⟨(z_D c0 c1 c2 c3 c4 c5 i0 i1 i2 i3 i4 i5, z_2 s.heap.size e cI cJ cO mi b L xs sa), rfl, rfl, ⟨⟨Nat.le_refl _, ⟨?_, ?_⟩, va_Zof (hts _ (by decide +kernel)) (hts _ (by decide +kernel)) he hA, vx_Zqof (hts _ (by decide +kernel)) (hts _ (by decide +kernel)) (hg _ (by decide +kernel)) hA, vx_Zqof (hts _ (by decide +kernel)) (hts _ (by decide +kernel)) (hg _ (by decide +kernel)) hA, hmi, va_Dc.of (hts _ (by decide +kernel)), va_AO.of hAO, fun w hw => va_any (xC_ot w hw) (hts w (xC_in w hw)), va_any rfl (hts _ (by decide +kernel)), fun q hq => ?_⟩, ⟨fun w hw => va_any (cfW_ot w hw) (hts w (cfW_in w hw)), fun q hq => ?_⟩, hbl, hL, (by rw [hgx]; exact hXs)⟩, ?_⟩
  · intro c q hc
    match c, hc with
    | 0, hc => cases hc; exact k0
    | 1, hc => cases hc; exact k1
    | 2, hc => cases hc; exact k2
    | 3, hc => cases hc; exact k3
    | 4, hc => cases hc; exact k4
    | 5, hc => cases hc; exact k5
    | c + 6, hc => cases hc
  · intro k q hk
    match k, hk with
    | 0, hk => cases hk; exact ⟨aI1, aI2⟩
    | 1, hk => cases hk; exact ⟨aI1, aI2⟩
    | 2, hk => cases hk; exact ⟨aJ1, aJ2⟩
    | 3, hk => cases hk; exact ⟨fun n z => ⟨fun k h => (by cases h), kO, o3, comp, o4⟩, kO, comp, o3, o4, o1, o5⟩
    | k + 4, hk => cases hk
  · have e1 : z_2 s.heap.size e cI cJ cO mi b L xs sa (100 + q.1) = sa q.1 := by
      rw [Nat.add_comm]
      have hq9 : q.1 + 100 < 1000 := by
        have h9 : ∀ q ∈ xS, q.1 + 100 < 1000 := by decide +kernel
        exact h9 q hq
      show (if 1000 ≤ q.1 + 100 then (xs (q.1 + 100 - 1000)).toUInt32.toNat else sa (q.1 + 100 - 100)) = _
      rw [if_neg (Nat.not_le.mpr hq9), Nat.add_sub_cancel]
    show vk_R RX5 q.1 q.2 (z_2 s.heap.size e cI cJ cO mi b L xs sa (100 + q.1)) s
    rw [e1]
    exact vk_R.of (A := args) (hts _ (xS_in q hq)) (hsa q hq)
  · simp only [cfN, List.mem_cons, List.not_mem_nil, or_false] at hq
    subst hq
    exact va_Nc.of (hg _ (by decide +kernel))
  · refine ⟨fun a => if a = e then some ((99, 0), oQ (z_D c0 c1 c2 c3 c4 c5 i0 i1 i2 i3 i4 i5, z_2 s.heap.size e cI cJ cO mi b L xs sa) 0 (fun _ => none)) else none, fun a t x hx => ?_, if_pos rfl, fun a ha => if_neg ha⟩
    by_cases hae : a = e
    · have hx := (if_pos hae).symm.trans hx
      cases hx
      subst hae
      exact ⟨Or.inr ⟨rfl, ⟨_, rfl⟩, cell, t1, hcO, t5, t3, t2.1⟩, Or.inl rfl⟩
    · have hx := (if_neg hae).symm.trans hx
      cases hx
