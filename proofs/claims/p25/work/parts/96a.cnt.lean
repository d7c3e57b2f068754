/-! ===== the library's count of bits is the count of bits ===== -/
theorem e_us_or (a b k : Int32) : us (a ||| b) k = us a k ||| us b k := by
  unfold us
  rw [Int32.toUInt32_or, ← UInt32.toInt32_or]
  refine congrArg UInt32.toInt32 (UInt32.toBitVec_inj.mp ?_)
  rw [UInt32.toBitVec_or, UInt32.toBitVec_shiftRight, UInt32.toBitVec_shiftRight, UInt32.toBitVec_shiftRight, UInt32.toBitVec_or]
  exact BitVec.ushiftRight_or_distrib _ _ _
theorem e_or_and (a b m : Int32) : (a ||| b) &&& m = (a &&& m) ||| (b &&& m) := gb_ext fun k _ => by
  rw [gb_and, gb_or, gb_or, gb_and, gb_and]
  cases gb a k <;> cases gb b k <;> cases gb m k <;> rfl
def e_lo (a : Int32) : Prop := a &&& (-256) = 0
def e_hi (a : Int32) : Prop := a &&& 255 = 0
theorem e_msk : ∀ k, k < 32 → gb (-256) k = !gb 255 k := by decide +kernel
theorem e_dj {a b : Int32} (ha : e_lo a) (hb : e_hi b) : a ||| b = a + b := by
  refine Int32.toBitVec_inj.mp ?_
  rw [Int32.toBitVec_or, Int32.toBitVec_add]
  refine (BitVec.add_eq_or_of_and_eq_zero _ _ ?_).symm
  rw [← Int32.toBitVec_and]
  refine (congrArg Int32.toBitVec (gb_ext (a := a &&& b) (b := 0) fun k hk => ?_)).trans rfl
  have h1 := congrArg (fun x => gb x k) ha
  have h2 := congrArg (fun x => gb x k) hb
  simp only [gb_and, gb_0, e_msk k hk] at h1 h2
  rw [gb_and, gb_0]
  cases h3 : gb a k <;> cases h4 : gb b k <;> cases h5 : gb 255 k <;> simp_all
def e_A (x : Int32) : Int32 := us x 1 &&& 1431655765
def e_B (x : Int32) : Int32 := bc1 x &&& 858993459
def e_C (x : Int32) : Int32 := us (bc1 x) 2 &&& 858993459
def e_c4 (n : Nat) : Nat := n % 2 + n / 2 % 2 + n / 4 % 2 + n / 8 % 2
theorem e_lo_all : ∀ l, l < 256 → (e_lo (nI l) ∧ e_lo (e_A (nI l)) ∧ e_lo (bc1 (nI l)) ∧ e_lo (e_B (nI l)) ∧ e_lo (e_C (nI l))) ∧ bc2 (nI l) = nI (e_c4 (l % 16) + 16 * e_c4 (l / 16)) ∧ szI (nI l) = nI (e_c4 (l % 16) + e_c4 (l / 16)) := by
  unfold e_lo
  decide +kernel
theorem e_hi_all : ∀ h, h < 1024 → (e_hi (nI (256 * h)) ∧ e_hi (e_A (nI (256 * h))) ∧ e_hi (bc1 (nI (256 * h))) ∧ e_hi (e_B (nI (256 * h))) ∧ e_hi (e_C (nI (256 * h)))) ∧ bc2 (nI (256 * h)) = nI (256 * e_c4 (h % 16) + 4096 * e_c4 (h / 16 % 16) + 65536 * e_c4 (h / 256)) ∧ szI (nI (256 * h)) = nI (e_c4 (h % 16) + e_c4 (h / 16 % 16) + e_c4 (h / 256)) := by
  unfold e_hi
  decide +kernel
def e_fin (y : Int32) : Int32 := let t := (y + us y 4) &&& 252645135; let u := t + us t 8; (u + us u 16) &&& 63
theorem e_bcI (x : Int32) : bcI x = e_fin (bc2 x) := rfl
theorem e_fin_all : ∀ a, a < 5 → ∀ b, b < 5 → ∀ c, c < 5 → ∀ d, d < 5 → ∀ e, e < 3 → e_fin (nI (a + 16 * b + (256 * c + 4096 * d + 65536 * e))) = nI (a + b + (c + d + e)) := by decide +kernel
theorem e_c4_le (n : Nat) : e_c4 n < 5 := by unfold e_c4; omega
theorem e_c4_le2 {n : Nat} (h : n < 4) : e_c4 n < 3 := by unfold e_c4; omega
theorem e_sub4 (a b c d : Int32) : a + b - (c + d) = (a - c) + (b - d) := by
  simp only [Int32.sub_eq_add_neg, Int32.neg_add]
  ac_rfl
theorem e_split {l h : Nat} (hl : l < 256) : nI (l + 256 * h) = nI l ||| nI (256 * h) := by
  rw [nI_or, Nat.or_comm, show (256 : Nat) = 2 ^ 8 from rfl, ← Nat.two_pow_add_eq_or_of_lt (show l < 2 ^ 8 from hl), Nat.add_comm]
theorem e_bc2 {l h : Nat} (hl : l < 256) (hh : h < 1024) : bc2 (nI (l + 256 * h)) = bc2 (nI l) + bc2 (nI (256 * h)) := by
  obtain ⟨⟨l0, l1, l2, l3, l4⟩, -, -⟩ := e_lo_all l hl
  obtain ⟨⟨h0, h1, h2, h3, h4⟩, -, -⟩ := e_hi_all h hh
  rw [e_split hl]
  have b1 : bc1 (nI l ||| nI (256 * h)) = bc1 (nI l) ||| bc1 (nI (256 * h)) := by
    rw [e_dj l2 h2]
    show (nI l ||| nI (256 * h)) - (us (nI l ||| nI (256 * h)) 1 &&& 1431655765) = _
    rw [e_us_or, e_or_and]
    rw [show (us (nI l) 1 &&& 1431655765) ||| (us (nI (256 * h)) 1 &&& 1431655765) = e_A (nI l) + e_A (nI (256 * h)) from e_dj l1 h1, e_dj l0 h0, e_sub4]
    rfl
  show (bc1 (nI l ||| nI (256 * h)) &&& 858993459) + (us (bc1 (nI l ||| nI (256 * h))) 2 &&& 858993459) = _
  rw [b1, e_us_or, e_or_and, e_or_and]
  rw [show (bc1 (nI l) &&& 858993459) ||| (bc1 (nI (256 * h)) &&& 858993459) = e_B (nI l) + e_B (nI (256 * h)) from e_dj l3 h3, show (us (bc1 (nI l)) 2 &&& 858993459) ||| (us (bc1 (nI (256 * h))) 2 &&& 858993459) = e_C (nI l) + e_C (nI (256 * h)) from e_dj l4 h4]
  show _ = (e_B (nI l) + e_C (nI l)) + (e_B (nI (256 * h)) + e_C (nI (256 * h)))
  ac_rfl
theorem e_sumI (g h : Nat → Int32) : ∀ n, sumI (fun k => g k + h k) n = sumI g n + sumI h n
  | 0 => rfl
  | n + 1 => by
    show sumI _ n + (g n + h n) = (sumI g n + g n) + (sumI h n + h n)
    rw [e_sumI g h n]
    ac_rfl
theorem e_sumI_cg {g h : Nat → Int32} : ∀ n, (∀ k, k < n → g k = h k) → sumI g n = sumI h n
  | 0, _ => rfl
  | n + 1, e => by
    show sumI g n + g n = sumI h n + h n
    rw [e_sumI_cg n (fun k hk => e k (by omega)), e n (by omega)]
theorem e_bit (s : Int32) {k : Nat} (hk : k < 32) : (s >>> (nI k &&& 31)) &&& 1 = bI (gb s k) := by
  refine Int32.toBitVec_inj.mp ?_
  rw [Int32.toBitVec_and, show (1 : Int32).toBitVec = 1#32 from rfl, BitVec.and_one_eq_setWidth_ofBool_getLsbD, Int32.toBitVec_shiftRight, BitVec.getLsbD_sshiftRight', sh_k k hk]
  unfold gb
  cases hb : s.toBitVec.getLsbD k <;> simp [hk, hb, bI]
theorem e_szI {l h : Nat} (hl : l < 256) (hh : h < 1024) : szI (nI (l + 256 * h)) = szI (nI l) + szI (nI (256 * h)) := by
  obtain ⟨⟨l0, -⟩, -⟩ := e_lo_all l hl
  obtain ⟨⟨h0, -⟩, -⟩ := e_hi_all h hh
  unfold szI
  rw [← e_sumI]
  refine e_sumI_cg 18 fun k hk => ?_
  have hk2 : k < 32 := by omega
  rw [e_bit _ hk2, e_bit _ hk2, e_bit _ hk2, e_split hl, gb_or]
  have h1 := congrArg (fun x => gb x k) l0
  have h2 := congrArg (fun x => gb x k) h0
  simp only [gb_and, gb_0, e_msk k hk2] at h1 h2
  cases h3 : gb (nI l) k <;> cases h4 : gb (nI (256 * h)) k <;> cases h5 : gb 255 k <;> simp_all [bI]
theorem e_cnt {x : Nat} (hx : x < 2 ^ 18) : bcI (nI x) = szI (nI x) := by
  have hl : x % 256 < 256 := Nat.mod_lt _ (by decide)
  have hh : x / 256 < 1024 := by omega
  have hxe : x = x % 256 + 256 * (x / 256) := by omega
  rw [hxe, e_bcI, e_bc2 hl hh, e_szI hl hh, (e_lo_all _ hl).2.1, (e_hi_all _ hh).2.1, (e_lo_all _ hl).2.2, (e_hi_all _ hh).2.2, nI_add, nI_add]
  exact e_fin_all _ (e_c4_le _) _ (e_c4_le _) _ (e_c4_le _) _ (e_c4_le _) _ (e_c4_le2 (by omega))

