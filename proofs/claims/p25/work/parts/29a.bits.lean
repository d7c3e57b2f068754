/-! ===== bits of ints ===== -/
def gb (s : Int32) (k : Nat) : Bool := s.toBitVec.getLsbD k
theorem sh_k : ∀ k, k < 32 → ((nI k &&& 31).toBitVec.smod 32).toNat = k := by decide +kernel
theorem hsI_gb (s : Int32) {k : Nat} (hk : k < 32) : hsI s (nI k) = gb s k := by
  have h1 : ((s >>> (nI k &&& 31)) &&& 1).toBitVec = BitVec.setWidth 32 (BitVec.ofBool (s.toBitVec.getLsbD k)) := by
    rw [Int32.toBitVec_and, show (1 : Int32).toBitVec = 1#32 from rfl, BitVec.and_one_eq_setWidth_ofBool_getLsbD, Int32.toBitVec_shiftRight, BitVec.getLsbD_sshiftRight', sh_k k hk]
    simp [hk]
  unfold hsI gb
  cases hb : s.toBitVec.getLsbD k
  · refine decide_eq_false (fun h => ?_)
    rw [h, hb] at h1
    exact absurd h1 (by decide)
  · refine decide_eq_true (Int32.toBitVec_inj.mp ?_)
    rw [h1, hb]
    rfl
theorem gb_or (a b : Int32) (k : Nat) : gb (a ||| b) k = (gb a k || gb b k) := by
  unfold gb; rw [Int32.toBitVec_or, BitVec.getLsbD_or]
theorem gb_and (a b : Int32) (k : Nat) : gb (a &&& b) k = (gb a k && gb b k) := by
  unfold gb; rw [Int32.toBitVec_and, BitVec.getLsbD_and]
theorem gb_not (a : Int32) {k : Nat} (hk : k < 32) : gb (a ^^^ (-1)) k = !gb a k := by
  unfold gb
  rw [Int32.toBitVec_xor, show (-1 : Int32).toBitVec = BitVec.allOnes 32 from by decide, BitVec.getLsbD_xor, BitVec.getLsbD_allOnes, decide_eq_true hk, Bool.xor_true]
theorem gb_nI (n : Nat) {k : Nat} (hk : k < 32) : gb (nI n) k = n.testBit k := by
  unfold gb
  rw [show (nI n).toBitVec = BitVec.ofNat 32 n from rfl, BitVec.getLsbD_ofNat, decide_eq_true hk, Bool.true_and]
theorem gb_ext {a b : Int32} (h : ∀ k, k < 32 → gb a k = gb b k) : a = b := Int32.toBitVec_inj.mp (BitVec.eq_of_getLsbD_eq h)
theorem gb_0 (k : Nat) : gb 0 k = false := by
  unfold gb
  rw [show (0 : Int32).toBitVec = 0#32 from rfl, BitVec.getLsbD_zero]
theorem nI_or (a b : Nat) : nI a ||| nI b = nI (a ||| b) := gb_ext fun k hk => by
  rw [gb_or, gb_nI _ hk, gb_nI _ hk, gb_nI _ hk, Nat.testBit_or]
theorem nI_and (a b : Nat) : nI a &&& nI b = nI (a &&& b) := gb_ext fun k hk => by
  rw [gb_and, gb_nI _ hk, gb_nI _ hk, gb_nI _ hk, Nat.testBit_and]
theorem shl_k : ∀ k, k < 31 → (1 : Int32) <<< (nI k &&& 31) = nI (2 ^ k) := by decide +kernel
theorem nI_shl {k : Nat} (hk : k < 31) : (1 : Int32) <<< (nI k &&& 31) = nI (2 ^ k) := shl_k k hk
