/-! ===== the law's longs: a party's cell ===== -/
theorem j_tn {n : Nat} (h : n < 18446744073709551616) : (lN n).toBitVec.toNat = n := Nat.mod_eq_of_lt h
theorem j_and {a b : Nat} (ha : a < 9223372036854775808) (hb : b < 9223372036854775808) : lN a &&& lN b = lN (a &&& b) := by
  apply Int64.toBitVec_inj.mp
  apply BitVec.eq_of_toNat_eq
  have h : a &&& b ≤ a := Nat.and_le_left
  rw [Int64.toBitVec_and, BitVec.toNat_and, j_tn (by omega), j_tn (by omega), j_tn (by omega)]
theorem j_or {a b : Nat} (ha : a < 9223372036854775808) (hb : b < 9223372036854775808) : lN a ||| lN b = lN (a ||| b) := by
  apply Int64.toBitVec_inj.mp
  apply BitVec.eq_of_toNat_eq
  have h : a ||| b < 2 ^ 63 := Nat.or_lt_two_pow (by omega) (by omega)
  rw [Int64.toBitVec_or, BitVec.toNat_or, j_tn (by omega), j_tn (by omega), j_tn (by omega)]
theorem j_shr {n : Nat} (h : n < 9223372036854775808) (s : Int64) (k : Nat) (hs : (s.toBitVec.smod 64).toNat = k) : lN n >>> s = lN (n / 2 ^ k) := by
  apply Int64.toInt_inj.mp
  have h2 : n / 2 ^ k ≤ n := Nat.div_le_self _ _
  rw [pk_lT (by omega)]
  show (((lN n).toBitVec).sshiftRight (s.toBitVec.smod 64).toNat).toInt = _
  rw [hs, BitVec.toInt_sshiftRight]
  show (lN n).toInt >>> k = _
  rw [pk_lT (by omega), Int.shiftRight_eq_div_pow]
  rfl
theorem j_shl {n : Nat} (s : Int64) (k : Nat) (hs : (s.toBitVec.smod 64).toNat = k) (h : n * 2 ^ k < 18446744073709551616) : lN n <<< s = lN (n * 2 ^ k) := by
  apply Int64.toBitVec_inj.mp
  apply BitVec.eq_of_toNat_eq
  have hn : n ≤ n * 2 ^ k := Nat.le_mul_of_pos_right n (Nat.two_pow_pos k)
  show ((lN n).toBitVec <<< (s.toBitVec.smod 64).toNat).toNat = _
  rw [hs, BitVec.toNat_shiftLeft, Nat.shiftLeft_eq, j_tn (by omega), j_tn h]
  exact Nat.mod_eq_of_lt h
/-- players, minute, whether it queues, its match plus 1 -/
def eN (P S Q M : Nat) : Nat := P + 262144 * S + 1099511627776 * Q + 2199023255552 * M
def eOk (P S Q M : Nat) : Prop := P < 262144 ∧ S < 131072 ∧ Q < 2 ∧ M < 64
theorem j_pl {P S Q M : Nat} (h : eOk P S Q M) : (lN (eN P S Q M) &&& 262143).toInt32 = nI P := by
  obtain ⟨h1, h2, h3, h4⟩ := h
  unfold eN
  rw [show (262143 : Int64) = lN 262143 from rfl, j_and (by omega) (by omega), lN_i, show (262143 : Nat) = 2 ^ 18 - 1 from rfl, Nat.and_two_pow_sub_one_eq_mod]
  congr 1
  omega
theorem j_si {P S Q M : Nat} (h : eOk P S Q M) : ((lN (eN P S Q M) >>> ((18 : Int32).toInt64 &&& 63)) &&& 131071).toInt32 = nI S := by
  obtain ⟨h1, h2, h3, h4⟩ := h
  unfold eN
  rw [j_shr (by omega) _ 18 (by decide +kernel), show (131071 : Int64) = lN 131071 from rfl, j_and (by omega) (by omega), lN_i, show (131071 : Nat) = 2 ^ 17 - 1 from rfl, Nat.and_two_pow_sub_one_eq_mod]
  congr 1
  omega
theorem j_qu {P S Q M : Nat} (h : eOk P S Q M) : (lN (eN P S Q M) >>> ((40 : Int32).toInt64 &&& 63)) &&& 1 = lN Q := by
  obtain ⟨h1, h2, h3, h4⟩ := h
  unfold eN
  rw [j_shr (by omega) _ 40 (by decide +kernel), show (1 : Int64) = lN 1 from rfl, j_and (by omega) (by omega), show (1 : Nat) = 2 ^ 1 - 1 from rfl, Nat.and_two_pow_sub_one_eq_mod]
  congr 1
  omega
theorem j_ma {P S Q M : Nat} (h : eOk P S Q M) : lN (eN P S Q M) >>> ((41 : Int32).toInt64 &&& 63) = lN M := by
  obtain ⟨h1, h2, h3, h4⟩ := h
  unfold eN
  rw [j_shr (by omega) _ 41 (by decide +kernel)]
  congr 1
  omega
theorem j_lo {P S Q M : Nat} (h : eOk P S Q M) : lN (eN P S Q M) &&& 1099511627775 = lN (eN P S 0 0) := by
  obtain ⟨h1, h2, h3, h4⟩ := h
  unfold eN
  rw [show (1099511627775 : Int64) = lN 1099511627775 from rfl, j_and (by omega) (by omega), show (1099511627775 : Nat) = 2 ^ 40 - 1 from rfl, Nat.and_two_pow_sub_one_eq_mod]
  congr 1
  omega
theorem j_or40 {P S : Nat} (h1 : P < 262144) (h2 : S < 131072) : lN (eN P S 0 0) ||| 1099511627776 = lN (eN P S 1 0) := by
  unfold eN
  rw [show (1099511627776 : Int64) = lN 1099511627776 from rfl, j_or (by omega) (by omega)]
  congr 1
  have h : 1099511627776 * 1 + (P + 262144 * S) = 1099511627776 * 1 ||| (P + 262144 * S) := Nat.two_pow_add_eq_or_of_lt (i := 40) (by omega) 1
  rw [Nat.or_comm]
  simp only [Nat.mul_one, Nat.mul_zero, Nat.add_zero] at h ⊢
  omega
theorem j_or0 {P S : Nat} : lN (eN P S 0 0) ||| 0 = lN (eN P S 0 0) := by
  apply Int64.toBitVec_inj.mp
  rw [Int64.toBitVec_or, show (0 : Int64).toBitVec = 0#64 from rfl, BitVec.or_zero]
theorem j_or41 {P S k : Nat} (h1 : P < 262144) (h2 : S < 131072) (h3 : k < 64) : lN (eN P S 0 0) ||| (lN k <<< ((41 : Int32).toInt64 &&& 63)) = lN (eN P S 0 k) := by
  unfold eN
  rw [j_shl _ 41 (by decide +kernel) (by omega), j_or (by omega) (by omega)]
  congr 1
  have h : 2199023255552 * k + (P + 262144 * S) = 2199023255552 * k ||| (P + 262144 * S) := Nat.two_pow_add_eq_or_of_lt (i := 41) (by omega) k
  have e : k * 2 ^ 41 = 2199023255552 * k := by omega
  rw [Nat.or_comm, e]
  simp only [Nat.mul_zero, Nat.add_zero] at h ⊢
  omega
theorem j_new {P S : Nat} (h1 : P < 262144) (h2 : S < 131072) : lN P ||| (lN S <<< ((18 : Int32).toInt64 &&& 63)) = lN (eN P S 0 0) := by
  unfold eN
  rw [j_shl _ 18 (by decide +kernel) (by omega), j_or (by omega) (by omega)]
  congr 1
  have h : 262144 * S + P = 262144 * S ||| P := Nat.two_pow_add_eq_or_of_lt (i := 18) (by omega) S
  have e : S * 2 ^ 18 = 262144 * S := by omega
  rw [Nat.or_comm, e]
  simp only [Nat.mul_zero, Nat.add_zero] at h ⊢
  omega
theorem j_m40 : ∀ j, j < 64 → (18446742974197923839 : Nat).testBit j = decide (j ≠ 40) := by decide +kernel
theorem j_clr {P S Q M : Nat} (h : eOk P S Q M) : lN (eN P S Q M) &&& (-1099511627777) = lN (eN P S 0 M) := by
  obtain ⟨h1, h2, h3, h4⟩ := h
  have hm : (-1099511627777 : Int64).toBitVec.toNat = 18446742974197923839 := by decide +kernel
  apply Int64.toBitVec_inj.mp
  apply BitVec.eq_of_toNat_eq
  rw [Int64.toBitVec_and, BitVec.toNat_and, hm, j_tn (by unfold eN; omega), j_tn (by unfold eN; omega)]
  have e1 : eN P S Q M = 2 ^ 40 * (Q + 2 * M) + (P + 262144 * S) := by unfold eN; omega
  have e2 : eN P S 0 M = 2 ^ 40 * (2 * M) + (P + 262144 * S) := by unfold eN; omega
  have hl : P + 262144 * S < 2 ^ 40 := by omega
  refine Nat.eq_of_testBit_eq fun j => ?_
  rw [Nat.testBit_and, e1, e2, Nat.testBit_two_pow_mul_add _ hl, Nat.testBit_two_pow_mul_add _ hl]
  by_cases hj : j < 40
  · rw [if_pos hj, if_pos hj, j_m40 j (by omega), decide_eq_true (by omega), Bool.and_true]
  · rw [if_neg hj, if_neg hj]
    by_cases h64 : j < 64
    · rw [j_m40 j h64]
      by_cases h40 : j = 40
      · subst h40
        rw [decide_eq_false (by omega), Bool.and_false, Nat.sub_self, Nat.testBit_zero]
        exact (decide_eq_false (by omega)).symm
      · obtain ⟨i, hi⟩ : ∃ i, j - 40 = i + 1 := ⟨j - 41, by omega⟩
        rw [decide_eq_true h40, Bool.and_true, hi, Nat.testBit_succ, Nat.testBit_succ]
        congr 1
        omega
    · have hb : ∀ x : Nat, x < 128 → x.testBit (j - 40) = false := fun x hx => Nat.testBit_lt_two_pow (Nat.lt_of_lt_of_le hx (by
        have : 2 ^ 7 ≤ 2 ^ (j - 40) := Nat.pow_le_pow_right (by decide) (by omega)
        omega))
      rw [hb _ (by omega), hb _ (by omega), Bool.false_and]
/-! ===== counting bits by x & (x - 1) ===== -/
def pcF : Nat → Nat → Nat
  | 0, _ => 0
  | n + 1, x => x % 2 + pcF n (x / 2)
theorem pcF_0 : ∀ n, pcF n 0 = 0
  | 0 => rfl
  | n + 1 => by
    show 0 % 2 + pcF n (0 / 2) = 0
    rw [Nat.zero_div, pcF_0 n]
theorem pcF_k : ∀ (n x : Nat), x < 2 ^ n → x ≠ 0 → pcF n x = pcF n (x &&& (x - 1)) + 1
  | 0, x, h, h0 => absurd (by simpa using h) h0
  | n + 1, x, h, h0 => by
    rw [Nat.pow_succ] at h
    have hd : (x &&& (x - 1)) / 2 = x / 2 &&& (x - 1) / 2 := Nat.and_div_two
    have hm : (x &&& (x - 1)) % 2 = 0 := by
      have h1 := Nat.and_mod_two_pow (a := x) (b := x - 1) (n := 1)
      rw [Nat.pow_one] at h1
      rw [h1]
      rcases Nat.mod_two_eq_zero_or_one x with h2 | h2
      · rw [h2, Nat.zero_and]
      · rw [h2, show (x - 1) % 2 = 0 by omega, Nat.and_zero]
    show x % 2 + pcF n (x / 2) = (x &&& (x - 1)) % 2 + pcF n ((x &&& (x - 1)) / 2) + 1
    rw [hm, hd]
    rcases Nat.mod_two_eq_zero_or_one x with h2 | h2
    · rw [show (x - 1) / 2 = x / 2 - 1 by omega, pcF_k n (x / 2) (by omega) (by omega), h2]
      omega
    · rw [show (x - 1) / 2 = x / 2 by omega, Nat.and_self, h2]
      omega
theorem pcF_len : ∀ (n x : Nat), pcF n x = ((List.range n).filter (fun k => x.testBit k)).length
  | 0, x => rfl
  | n + 1, x => by
    show x % 2 + pcF n (x / 2) = _
    rw [pcF_len n (x / 2), List.range_succ_eq_map]
    have e1 : ((List.range n).map Nat.succ).filter (fun k => x.testBit k) = (((List.range n).filter (fun k => (x / 2).testBit k))).map Nat.succ := by
      rw [List.filter_map]
      congr 1
      refine List.filter_congr fun k _ => ?_
      exact Nat.testBit_succ x k
    rw [List.filter_cons, e1]
    rcases Nat.mod_two_eq_zero_or_one x with h2 | h2
    · rw [if_neg (by rw [Nat.testBit_zero, decide_eq_true_eq]; omega), List.length_map, h2, Nat.zero_add]
    · rw [if_pos (by rw [Nat.testBit_zero, decide_eq_true_eq]; exact h2), List.length_cons, List.length_map, h2, Nat.add_comm]
theorem pcF_J (x : Nat) : pcF 18 x = (JQ (nI x) 18).length := by
  rw [pcF_len 18 x]
  unfold JQ
  congr 1
  refine List.filter_congr fun k hk => ?_
  have := List.mem_range.mp hk
  rw [hsI_gb _ (by omega), gb_nI _ (by omega)]
