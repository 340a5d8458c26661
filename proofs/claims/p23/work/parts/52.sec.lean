/-! ===== runs from cut to cut: ranges are sound ===== -/
theorem se_le_iff {a b : Int} : se_le a b = true ↔ a ≤ b := by unfold se_le; exact decide_eq_true_iff
theorem se_min_le1 (a b : Int) : se_min a b ≤ a ∧ se_min a b ≤ b := by
  unfold se_min
  split
  · next e => exact ⟨Int.le_refl _, se_le_iff.mp e⟩
  · next e => have : ¬ a ≤ b := fun h => e (se_le_iff.mpr h); omega
theorem se_le_max1 (a b : Int) : a ≤ se_max a b ∧ b ≤ se_max a b := by
  unfold se_max
  split
  · next e => exact ⟨se_le_iff.mp e, Int.le_refl _⟩
  · next e => have : ¬ a ≤ b := fun h => e (se_le_iff.mpr h); omega
theorem se_min_of {a b z : Int} (h1 : z ≤ a) (h2 : z ≤ b) : z ≤ se_min a b := by unfold se_min; split <;> assumption
theorem se_max_of {a b z : Int} (h1 : a ≤ z) (h2 : b ≤ z) : se_max a b ≤ z := by unfold se_max; split <;> assumption
theorem se_i32 (n : Int32) : se_lo ≤ n.toInt ∧ n.toInt ≤ se_hi := by
  have h1 := Int32.toInt_lt n
  have h2 := Int32.le_toInt n
  unfold se_lo se_hi
  omega
theorem se_ofInt {z : Int} (h1 : se_lo ≤ z) (h2 : z ≤ se_hi) : (Int32.ofInt z).toInt = z := by
  unfold se_lo at h1
  unfold se_hi at h2
  exact Int32.toInt_ofInt_of_le (by omega) (by omega)
theorem se_in_iff {l h : Int} (e : se_in l h = true) : se_lo ≤ l ∧ h ≤ se_hi := by
  unfold se_in at e
  rw [Bool.and_eq_true] at e
  exact ⟨se_le_iff.mp e.1, se_le_iff.mp e.2⟩
theorem se_fit_ok {z l h : Int} (hl : l ≤ z) (hh : z ≤ h) : (se_fit l h).1 ≤ (Int32.ofInt z).toInt ∧ (Int32.ofInt z).toInt ≤ (se_fit l h).2 := by
  unfold se_fit
  split
  · next e =>
    have := se_in_iff e
    rw [se_ofInt (by omega) (by omega)]
    exact ⟨hl, hh⟩
  · exact se_i32 _
theorem se_nonneg {x : Int32} (h : 0 ≤ x.toInt) : x.toInt = (x.toBitVec.toNat : Int) := by
  rw [← Int32.toInt_toBitVec] at h ⊢
  rw [BitVec.toInt_eq_toNat_cond] at h ⊢
  split
  · rfl
  · next e =>
    rw [if_neg e] at h
    have := x.toBitVec.isLt
    omega
theorem se_toNat {x : Int32} {n : Nat} (h : x.toBitVec.toNat = n) (hn : n < 2 ^ 31) : x.toInt = (n : Int) := by
  rw [← Int32.toInt_toBitVec, BitVec.toInt_eq_toNat_of_lt (by rw [h]; omega), h]
theorem se_and_l {x y : Int32} (h : 0 ≤ x.toInt) : 0 ≤ (x &&& y).toInt ∧ (x &&& y).toInt ≤ x.toInt := by
  have hx := se_nonneg h
  have hlt := Int32.toInt_lt x
  have e : (x &&& y).toBitVec.toNat = x.toBitVec.toNat &&& y.toBitVec.toNat := by rw [Int32.toBitVec_and, BitVec.toNat_and]
  have hle : x.toBitVec.toNat &&& y.toBitVec.toNat ≤ x.toBitVec.toNat := Nat.and_le_left
  rw [se_toNat e (by omega)]
  omega
theorem se_and_r {x y : Int32} (h : 0 ≤ y.toInt) : 0 ≤ (x &&& y).toInt ∧ (x &&& y).toInt ≤ y.toInt := by
  have hx := se_nonneg h
  have hlt := Int32.toInt_lt y
  have e : (x &&& y).toBitVec.toNat = x.toBitVec.toNat &&& y.toBitVec.toNat := by rw [Int32.toBitVec_and, BitVec.toNat_and]
  have hle : x.toBitVec.toNat &&& y.toBitVec.toNat ≤ y.toBitVec.toNat := Nat.and_le_right
  rw [se_toNat e (by omega)]
  omega
theorem se_or {x y : Int32} {h : Int} (h1 : 0 ≤ x.toInt) (h2 : 0 ≤ y.toInt) (hx : x.toInt ≤ h) (hy : y.toInt ≤ h) (hh : h ≤ se_hi) : x.toInt ≤ (x ||| y).toInt ∧ y.toInt ≤ (x ||| y).toInt ∧ (x ||| y).toInt ≤ se_up h := by
  have ex := se_nonneg h1
  have ey := se_nonneg h2
  unfold se_hi at hh
  have e : (x ||| y).toBitVec.toNat = x.toBitVec.toNat ||| y.toBitVec.toNat := by rw [Int32.toBitVec_or, BitVec.toNat_or]
  have hb : h.toNat < 2 ^ (h.toNat.log2 + 1) := Nat.lt_log2_self
  have hlt : x.toBitVec.toNat ||| y.toBitVec.toNat < 2 ^ (h.toNat.log2 + 1) := Nat.or_lt_two_pow (by omega) (by omega)
  have hlt2 : x.toBitVec.toNat ||| y.toBitVec.toNat < 2 ^ 31 := Nat.or_lt_two_pow (by omega) (by omega)
  have hl : x.toBitVec.toNat ≤ x.toBitVec.toNat ||| y.toBitVec.toNat := Nat.left_le_or
  have hr : y.toBitVec.toNat ≤ x.toBitVec.toNat ||| y.toBitVec.toNat := Nat.right_le_or
  rw [se_toNat e hlt2]
  unfold se_up
  omega
theorem se_shl1 : ∀ n, n < 31 → ((1 : Int32) <<< (Int32.ofNat n &&& 31)).toInt = (2 ^ n : Nat) := by decide
theorem se_shr {x y : Int32} (h : 0 ≤ x.toInt) : 0 ≤ (x >>> (y &&& 31)).toInt ∧ (x >>> (y &&& 31)).toInt ≤ x.toInt := by
  have e : (x >>> (y &&& 31)).toInt = x.toInt >>> ((y &&& 31).toBitVec.smod 32).toNat := by
    rw [← Int32.toInt_toBitVec, Int32.toBitVec_shiftRight, BitVec.toInt_sshiftRight', Int32.toInt_toBitVec]
  rw [e, Int.shiftRight_eq_div_pow]
  generalize ((y &&& 31).toBitVec.smod 32).toNat = n
  have hp : (0 : Int) < ((2 ^ n : Nat) : Int) := by exact_mod_cast Nat.two_pow_pos n
  exact ⟨Int.ediv_nonneg h (Int.le_of_lt hp), Int.ediv_le_self _ h⟩
theorem se_rem {x y : Int32} {m : Int} (hy : y.toInt = m) (hm : 1 ≤ m) : 1 - m ≤ (x - x / y * y).toInt ∧ (x - x / y * y).toInt ≤ m - 1 := by
  have hne : y ≠ -1 := by
    intro e
    rw [e] at hy
    have : ((-1 : Int32)).toInt = -1 := by decide
    omega
  have hx := se_i32 x
  unfold se_lo se_hi at hx
  have hd := Int32.toInt_div_of_ne_right x y hne
  have e : x - x / y * y = Int32.ofInt (x.toInt - x.toInt.tdiv m * m) := by
    rw [Int32.ofInt_sub, Int32.ofInt_mul, Int32.ofInt_toInt, ← hy, ← hd, Int32.ofInt_toInt, Int32.ofInt_toInt]
  have e2 : x.toInt - x.toInt.tdiv m * m = x.toInt.tmod m := by
    have := Int.tdiv_mul_add_tmod x.toInt m
    omega
  have b1 : x.toInt.tmod m < m := Int.tmod_lt_of_pos _ (by omega)
  have b2 : -m < x.toInt.tmod m := by
    have := Int.lt_tmod_of_pos x.toInt (b := m) (by omega)
    omega
  have hmr := se_i32 y
  unfold se_lo se_hi at hmr
  rw [e, e2, se_ofInt (by unfold se_lo; omega) (by unfold se_hi; omega)]
  omega
theorem se_ro_ok (o : Nat) {x y : Int32} {l1 h1 l2 h2 : Int} (a1 : l1 ≤ x.toInt) (a2 : x.toInt ≤ h1) (b1 : l2 ≤ y.toInt) (b2 : y.toInt ≤ h2) (c1 : h1 ≤ se_hi) (c2 : h2 ≤ se_hi) : (se_ro o l1 h1 l2 h2).1 ≤ (se_op o x y).toInt ∧ (se_op o x y).toInt ≤ (se_ro o l1 h1 l2 h2).2 := by
  unfold se_ro
  split
  · have e : se_op 1 x y = Int32.ofInt (x.toInt + y.toInt) := by simp [se_op]
    rw [e]; exact se_fit_ok (by omega) (by omega)
  · have e : se_op 2 x y = Int32.ofInt (x.toInt - y.toInt) := by simp [se_op]
    rw [e]; exact se_fit_ok (by omega) (by omega)
  · split
    · next e0 =>
      rw [Bool.and_eq_true] at e0
      have e1 := se_le_iff.mp e0.1
      have e2 := se_le_iff.mp e0.2
      have e : se_op 3 x y = Int32.ofInt (x.toInt * y.toInt) := by simp [se_op]
      rw [e]
      exact se_fit_ok (Int.mul_le_mul a1 b1 e2 (by omega)) (Int.mul_le_mul a2 b2 (by omega) (by omega))
    · exact se_i32 _
  · show (_ : Int) ≤ (x &&& y).toInt ∧ (x &&& y).toInt ≤ _
    split
    · next e1 =>
      have e1 := se_le_iff.mp e1
      have q := se_and_l (y := y) (x := x) (by omega)
      split
      · next e2 =>
        have e2 := se_le_iff.mp e2
        have q2 := se_and_r (x := x) (y := y) (by omega)
        exact ⟨q.1, se_min_of (by omega) (by omega)⟩
      · exact ⟨q.1, by show _ ≤ h1; omega⟩
    · split
      · next e2 =>
        have e2 := se_le_iff.mp e2
        have q2 := se_and_r (x := x) (y := y) (by omega)
        exact ⟨q2.1, by show _ ≤ h2; omega⟩
      · exact se_i32 _
  · split
    · next e0 =>
      rw [Bool.and_eq_true] at e0
      have e1 := se_le_iff.mp e0.1
      have e2 := se_le_iff.mp e0.2
      have q := se_le_max1 h1 h2
      have q3 := se_or (x := x) (y := y) (h := se_max h1 h2) (by omega) (by omega) (by omega) (by omega) (se_max_of c1 c2)
      exact ⟨se_max_of (by show l1 ≤ (x ||| y).toInt; omega) (by show l2 ≤ (x ||| y).toInt; omega), q3.2.2⟩
    · exact se_i32 _
  · split
    · next e0 =>
      simp only [Bool.and_eq_true, decide_eq_true_eq] at e0
      obtain ⟨⟨⟨e1, e2⟩, e3⟩, e4⟩ := e0
      have e3 := se_le_iff.mp e3
      have e4 := se_le_iff.mp e4
      have ex : x = 1 := by
        rw [← Int32.ofInt_toInt x, show x.toInt = 1 by omega]
        decide
      have ey : y = Int32.ofNat y.toInt.toNat := by
        rw [← Int32.ofInt_eq_ofNat, Int.toNat_of_nonneg (by omega), Int32.ofInt_toInt]
      have hv : (se_op 7 x y).toInt = (2 ^ y.toInt.toNat : Nat) := by
        show (x <<< (y &&& 31)).toInt = _
        have := se_shl1 y.toInt.toNat (by omega)
        rw [← ey] at this
        rw [ex]
        exact this
      rw [hv]
      have p1 : 2 ^ l2.toNat ≤ 2 ^ y.toInt.toNat := Nat.pow_le_pow_right (by decide) (by omega)
      have p2 : 2 ^ y.toInt.toNat ≤ 2 ^ h2.toNat := Nat.pow_le_pow_right (by decide) (by omega)
      exact ⟨Int.ofNat_le.mpr p1, Int.ofNat_le.mpr p2⟩
    · exact se_i32 _
  · split
    · next e1 =>
      have e1 := se_le_iff.mp e1
      have q := se_shr (x := x) (y := y) (by omega)
      exact ⟨q.1, by show (x >>> (y &&& 31)).toInt ≤ h1; omega⟩
    · exact se_i32 _
  · split
    · next e0 =>
      simp only [Bool.and_eq_true, decide_eq_true_eq] at e0
      obtain ⟨e1, e2⟩ := e0
      have e2 := se_le_iff.mp e2
      exact se_rem (by omega) e2
    · exact se_i32 _
  · have h1 := Int8.toInt_lt x.toInt8
    have h2 := Int8.le_toInt x.toInt8
    show (-128 : Int) ≤ (x.toInt8.toInt32).toInt ∧ (x.toInt8.toInt32).toInt ≤ 127
    rw [Int8.toInt_toInt32]
    omega
  · have h1 := Int16.toInt_lt x.toInt16
    have h2 := Int16.le_toInt x.toInt16
    show (-32768 : Int) ≤ (x.toInt16.toInt32).toInt ∧ (x.toInt16.toInt32).toInt ≤ 32767
    rw [Int16.toInt_toInt32]
    omega
  · have hb : (x.toUInt32 % 65536).toInt32.toBitVec.toNat = x.toBitVec.toNat % 65536 := by
      show (x.toUInt32 % 65536).toNat = _
      rw [UInt32.toNat_mod]
      rfl
    have hlt : x.toBitVec.toNat % 65536 < 65536 := Nat.mod_lt _ (by decide)
    show (0 : Int) ≤ ((x.toUInt32 % 65536).toInt32).toInt ∧ ((x.toUInt32 % 65536).toInt32).toInt ≤ 65535
    rw [se_toNat hb (by omega)]
    omega
  · have q1 := se_le_max1 l1 l2
    have q2 := se_le_max1 h1 h2
    show se_max l1 l2 ≤ (if x < y then y else x).toInt ∧ (if x < y then y else x).toInt ≤ se_max h1 h2
    split
    · next e => rw [Int32.lt_iff_toInt_lt] at e; exact ⟨se_max_of (by omega) (by omega), by omega⟩
    · next e => rw [Int32.lt_iff_toInt_lt] at e; exact ⟨se_max_of (by omega) (by omega), by omega⟩
  · have q1 := se_min_le1 l1 l2
    have q2 := se_min_le1 h1 h2
    show se_min l1 l2 ≤ (if y < x then y else x).toInt ∧ (if y < x then y else x).toInt ≤ se_min h1 h2
    split
    · next e => rw [Int32.lt_iff_toInt_lt] at e; exact ⟨by omega, se_min_of (by omega) (by omega)⟩
    · next e => rw [Int32.lt_iff_toInt_lt] at e; exact ⟨by omega, se_min_of (by omega) (by omega)⟩
  · exact se_i32 _
