/-! ===== the law, from its entry to its end ===== -/
set_option maxHeartbeats 4000000 in
set_option maxRecDepth 100000 in
theorem whole_start {p : Program} {e : Env} {s : State} {m : MethodId} {below : List Frame} {meth : Method} {c : Code} (l : Launch) (hflags : l.flags = flags0) {b L : Nat} {xs : Nat → Int32} (hL : L ≤ 260) (C0 : lw_At p s m meth c b L xs) : W p l e room_1 s m #[Value.ref b] below meth c s.heap [] 0 0 (lw_Z below #[Value.ref b] s) (entryFrame m ([Value.ref b] : List Value).toArray 1) := by
  obtain ⟨hexec, hcode, hret, hml, hown, hts, hXs, hbl, hlocks, hgv⟩ := C0
  have hst : l.stackTraces = false := by
    unfold Launch.stackTraces
    rw [hflags]
    decide +kernel
  obtain ⟨G, hN, hGB, hKK, f0, hf1, hf2, -⟩ := k_start hts hgv hL hXs hbl
  have hX : CX ((p, l, e, room_1, s), (m, #[Value.ref b], below, meth, c), (G, 1, 699500, 7002683, lw_Z below #[Value.ref b] s)) cL_law RL wsL_law 1 2048 84000 := ⟨hexec, hcode, hml, hown, fun w hw => hts w (wsL_law_in w hw), hKK, hlocks, rfl, rfl⟩
  have key := law_body hX hst ⟨_, hf2⟩ (fun f kc ks lv => (fun H locs ls cells slots a1 a2 a3 a4 a5 => va_forget (fun q hq => by
    have := a2.2.2 q hq
    have : gN G ≤ q.base := this
    show s.heap.size ≤ q.base
    omega) (W.widen (k := 699500) (n := 7002683) (show cells ≤ 699500 from Nat.le_trans (Nat.le_add_right _ _) a4) (show slots ≤ 7002683 from Nat.le_trans (Nat.le_add_right _ _) a5) (lw_ret hexec hcode hret hlocks dL_law_33))))
  have hlen : (lg_sl [Value.ref b]).length ≤ 1 := by show 1 ≤ 1; omega
  have hl := lv_entry [Value.ref b] (n := 1) hlen
  rw [lg_entry_eq]
  change V ((p, l, e, room_1, s), (m, #[Value.ref b], below, meth, c), (G, 1, 699500, 7002683, lw_Z below #[Value.ref b] s)) f0 699500 7002683 0 [(0, .ref (gB G))] [] at key
  rw [hGB] at key
  exact key s.heap [] _ 0 0 hf1 va_S.rf ⟨hl, fun q hq => by cases List.mem_singleton.mp hq; rfl⟩ (by show 0 + 699500 ≤ 699500; omega) (by show 0 + 7002683 ≤ 7002683; omega)
