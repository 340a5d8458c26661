/-! ===== sets of at most 31 members as bits ===== -/
theorem ib_bv {x : Int32} {n : Nat} (h : x.toBitVec = BitVec.ofNat 32 n) (hn : n < 2147483648) : x.toInt = (n : Int) := by
  show x.toBitVec.toInt = _
  have e : (BitVec.ofNat 32 n).toNat = n := by
    rw [BitVec.toNat_ofNat]
    exact Nat.mod_eq_of_lt (by omega)
  rw [h, BitVec.toInt_eq_toNat_of_lt (by omega), e]
theorem ib_of (n : Nat) : (Int32.ofInt (n : Int)).toBitVec = BitVec.ofNat 32 n := by
  rw [Int32.toBitVec_ofInt, BitVec.ofInt_natCast]
theorem ib_and {a b : Nat} (ha : a < 2147483648) : iv_and (a : Int) (b : Int) = ((a &&& b : Nat) : Int) := by
  refine ib_bv ?_ (Nat.lt_of_le_of_lt Nat.and_le_left ha)
  rw [Int32.toBitVec_and, ib_of, ib_of, BitVec.ofNat_and]
theorem ib_or {a b : Nat} (ha : a < 2147483648) (hb : b < 2147483648) : iv_or (a : Int) (b : Int) = ((a ||| b : Nat) : Int) := by
  refine ib_bv ?_ (Nat.or_lt_two_pow (n := 31) ha hb)
  rw [Int32.toBitVec_or, ib_of, ib_of, BitVec.ofNat_or]
theorem ib_shl {i : Nat} (hi : i < 31) : iv_shl 1 (i : Int) = ((2 ^ i : Nat) : Int) := by
  have h : ∀ i : Nat, i < 31 → iv_shl 1 (i : Int) = ((2 ^ i : Nat) : Int) := by decide +kernel
  exact h i hi
theorem ib_shr {a i : Nat} (ha : a < 2147483648) (hi : i < 31) : iv_shr (a : Int) (i : Int) = ((a >>> i : Nat) : Int) := by
  have h1 : ((Int32.ofInt (i : Int) &&& 31).toBitVec.smod 32).toNat = i := by
    have h : ∀ i : Nat, i < 31 → ((Int32.ofInt (i : Int) &&& 31).toBitVec.smod 32).toNat = i := by decide +kernel
    exact h i hi
  have e : (Int32.ofInt (a : Int) >>> (Int32.ofInt (i : Int) &&& 31)).toInt = (Int32.ofInt (a : Int)).toInt >>> ((Int32.ofInt (i : Int) &&& 31).toBitVec.smod 32).toNat := BitVec.toInt_sshiftRight'
  unfold iv_shr
  rw [e, h1, ib_bv (ib_of a) ha]
  rfl
theorem ib_bit {a i : Nat} (ha : a < 2147483648) (hi : i < 31) : iv_and (iv_shr (a : Int) (i : Int)) 1 = if a.testBit i then 1 else 0 := by
  rw [ib_shr ha hi]
  have h := ib_and (a := a >>> i) (b := 1) (Nat.lt_of_le_of_lt (Nat.shiftRight_le a i) ha)
  rw [show ((1 : Nat) : Int) = 1 from rfl] at h
  rw [h, Nat.and_one_is_mod]
  have e : a.testBit i = decide ((a >>> i) % 2 = 1) := by
    rw [Nat.testBit_eq_decide_div_mod_eq, Nat.shiftRight_eq_div_pow]
  rw [e]
  by_cases q : (a >>> i) % 2 = 1
  · simp [q]
  · have : (a >>> i) % 2 = 0 := by omega
    simp [this]
