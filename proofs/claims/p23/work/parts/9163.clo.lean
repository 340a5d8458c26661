/-! ===== the least closed set: rafts that ropes join ===== -/
def cs (X Y : Nat) : Prop := X ||| Y = Y
theorem cs_rfl (X : Nat) : cs X X := Nat.or_self X
theorem cs_tr {X Y Z : Nat} (h1 : cs X Y) (h2 : cs Y Z) : cs X Z := by
  unfold cs at *
  rw [← h2, ← Nat.or_assoc, h1]
theorem cs_as {X Y : Nat} (h1 : cs X Y) (h2 : cs Y X) : X = Y := by
  unfold cs at *
  rw [← h2, Nat.or_comm, h1]
theorem cs_or {X Y Z : Nat} (h1 : cs X Z) (h2 : cs Y Z) : cs (X ||| Y) Z := by
  unfold cs at *
  rw [Nat.or_assoc, h2, h1]
theorem cs_l (X Y : Nat) : cs X (X ||| Y) := by
  unfold cs
  rw [← Nat.or_assoc, Nat.or_self]
theorem cs_r (X Y : Nat) : cs Y (X ||| Y) := by
  rw [Nat.or_comm]
  exact cs_l Y X
theorem cs_and {X Y Z : Nat} (h : cs Y Z) (h1 : X &&& Y ≠ 0) : X &&& Z ≠ 0 := fun q => h1 (by
  refine Nat.eq_of_testBit_eq (fun i => ?_)
  have e : (X &&& Z).testBit i = false := by rw [q]; exact Nat.zero_testBit i
  have e2 : (Y ||| Z).testBit i = Z.testBit i := by rw [show Y ||| Z = Z from h]
  rw [Nat.testBit_and] at e ⊢
  rw [Nat.testBit_or] at e2
  rw [Nat.zero_testBit]
  cases hX : X.testBit i <;> cases hY : Y.testBit i <;> cases hZ : Z.testBit i <;> simp_all)
/-- closed under the ropes R below n, whose ends are E -/
def ccl (n : Nat) (E : Nat → Nat) (R T : Nat) : Prop := ∀ r, r < n → R.testBit r = true → E r &&& T ≠ 0 → cs (E r) T
def cpt (n : Nat) (E : Nat → Nat) (R s X : Nat) : Prop := cs s X ∧ ccl n E R X ∧ ∀ T, cs s T → ccl n E R T → cs X T
theorem cpt_eq {n : Nat} {E : Nat → Nat} {R s X Y : Nat} (h1 : cpt n E R s X) (h2 : cpt n E R s Y) : X = Y := cs_as (h1.2.2 Y h2.1 h2.2.1) (h2.2.2 X h1.1 h1.2.1)
def cb (X i : Nat) : Nat := if X.testBit i then 1 else 0
def card10 (X : Nat) : Nat := cb X 0 + cb X 1 + cb X 2 + cb X 3 + cb X 4 + cb X 5 + cb X 6 + cb X 7 + cb X 8 + cb X 9
theorem cb_le (X i : Nat) : cb X i ≤ 1 := by
  unfold cb
  split <;> omega
theorem cb_mono {X Y : Nat} (h : cs X Y) (i : Nat) : cb X i ≤ cb Y i := by
  have e : (X ||| Y).testBit i = Y.testBit i := by rw [show X ||| Y = Y from h]
  rw [Nat.testBit_or] at e
  unfold cb
  cases hX : X.testBit i <;> cases hY : Y.testBit i <;> simp_all
theorem card10_le (X : Nat) : card10 X ≤ 10 := by
  unfold card10
  have := cb_le X
  have h0 := this 0
  have h1 := this 1
  have h2 := this 2
  have h3 := this 3
  have h4 := this 4
  have h5 := this 5
  have h6 := this 6
  have h7 := this 7
  have h8 := this 8
  have h9 := this 9
  omega
theorem card10_lt {X Y : Nat} (h : cs X Y) (hY : Y < 1024) (hX : X < 1024) (hne : X ≠ Y) : card10 X < card10 Y := by
  have hi : ∃ i, i < 10 ∧ cb X i ≠ cb Y i := by
    refine Decidable.byContradiction (fun q => hne (Nat.eq_of_testBit_eq (fun i => ?_)))
    by_cases h10 : i < 10
    · have e : cb X i = cb Y i := Decidable.byContradiction (fun z => q ⟨i, h10, z⟩)
      unfold cb at e
      cases hX : X.testBit i <;> cases hY : Y.testBit i <;> simp_all
    · rw [Nat.testBit_lt_two_pow (Nat.lt_of_lt_of_le hX (Nat.pow_le_pow_right (n := 2) (by decide) (show 10 ≤ i by omega))), Nat.testBit_lt_two_pow (Nat.lt_of_lt_of_le hY (Nat.pow_le_pow_right (n := 2) (by decide) (show 10 ≤ i by omega)))]
  have hm := cb_mono h
  have h0 := hm 0
  have h1 := hm 1
  have h2 := hm 2
  have h3 := hm 3
  have h4 := hm 4
  have h5 := hm 5
  have h6 := hm 6
  have h7 := hm 7
  have h8 := hm 8
  have h9 := hm 9
  obtain ⟨i, hi, hn⟩ := hi
  unfold card10
  rcases (show i = 0 ∨ i = 1 ∨ i = 2 ∨ i = 3 ∨ i = 4 ∨ i = 5 ∨ i = 6 ∨ i = 7 ∨ i = 8 ∨ i = 9 by omega) with rfl | rfl | rfl | rfl | rfl | rfl | rfl | rfl | rfl | rfl <;> omega
