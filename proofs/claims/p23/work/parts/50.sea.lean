/-! ===== runs from cut to cut: values, types, memory ===== -/
/-- a * (the k-th unknown) + c; a = 0: the number c -/
abbrev se_V : Type := Int × Nat × Int
/-- a kind and a range: 0 an int in it, 1 a long, t + 2 a reference of type t -/
abbrev se_K : Type := Nat × Int × Int
/-- an unknown: its kind, and how it came (an op and its two; 0: not said) -/
abbrev se_D : Type := se_K × Nat × se_V × se_V
/-- a type: the class of an object, or none; an array's elements; how many slots; what lies in them, by stretches -/
abbrev se_Ty : Type := Option Nat × FieldType × Nat × List (Nat × Nat × List se_K)
abbrev se_M : Type := List (se_V × se_V × se_V)
abbrev se_F : Type := Nat × List sx_I × List sx_I × List (Option se_V) × List se_V
/-- unknowns, what is known of the memory, the frame, callers, what was compared, what was written -/
abbrev se_S : Type := List se_D × se_M × se_F × List se_F × List (Jvm.ClassFile.Cond × se_V × se_V) × Option se_M
abbrev se_R : Type := Option (List se_S)
def se_lo : Int := -2147483648
def se_hi : Int := 2147483647
def se_any : se_K := (0, se_lo, se_hi)
def se_seg (l : List (Nat × Nat × List se_K)) (i : Nat) : se_K := match l with
  | [] => se_any
  | (a, b, pt) :: t => if Nat.ble a i && Nat.blt i b then pt.getD ((i - a) % pt.length) se_any else se_seg t i
def se_get (mem : List mm_C) (p i : Nat) : Option Value := match mem[p]? with
  | some (.inl a) => a.2[i]?
  | some (.inr o) => o.2[i]?
  | none => none
def se_set (mem : List mm_C) (p i : Nat) (x : Value) : List mm_C := match mem[p]? with
  | some (.inl a) => mem.set p (.inl (a.1, a.2.set i x))
  | some (.inr o) => mem.set p (.inr (o.1, o.2.set i x))
  | none => mem
def se_v (ρ : List Value) (v : se_V) : Option Value := if v.1 = 0 then some (.int (Int32.ofInt v.2.2)) else match ρ[v.2.1]? with
  | some (.int x) => some (.int (Int32.ofInt (v.1 * x.toInt + v.2.2)))
  | o => o
section SEA
variable (ty : Nat → Option Nat) (tt : Nat → se_Ty)
/-- a value of a kind; ty: the type of a place -/
def se_k (d : se_K) (x : Value) : Prop := match d.1 with
  | 0 => ∃ n : Int32, x = .int n ∧ d.2.1 ≤ n.toInt ∧ n.toInt ≤ d.2.2
  | 1 => ∃ n : Int64, x = .long n
  | t + 2 => ∃ q : Nat, x = .ref q ∧ ty q = some t
def se_tc (t : se_Ty) (c : Option mm_C) : Prop := match t.1 with
  | some ci => ∃ fs : List Value, c = some (.inr (ci, fs)) ∧ fs.length = t.2.2.1 ∧ ∀ i, i < t.2.2.1 → ∃ x, fs[i]? = some x ∧ se_k ty (se_seg t.2.2.2 i) x
  | none => ∃ xs : List Value, c = some (.inl (t.2.1, xs)) ∧ xs.length = t.2.2.1 ∧ ∀ i, i < t.2.2.1 → ∃ x, xs[i]? = some x ∧ se_k ty (se_seg t.2.2.2 i) x
/-- each place holds what its type says -/
def se_tm (mem : List mm_C) : Prop := ∀ (p t : Nat), ty p = some t → se_tc ty (tt t) mem[p]?
end SEA
theorem se_v_app {ρ : List Value} {v : se_V} {x : Value} (h : se_v ρ v = some x) (δ : List Value) : se_v (ρ ++ δ) v = some x := by
  unfold se_v at h ⊢
  split at h
  · next e => rw [if_pos e]; exact h
  · next e =>
    rw [if_neg e]
    cases hk : ρ[v.2.1]? with
    | none => rw [hk] at h; cases h
    | some w =>
      have hlt := (List.getElem?_eq_some_iff.mp hk).1
      rw [List.getElem?_append_left hlt, hk]
      rw [hk] at h
      exact h
theorem se_v_c (ρ : List Value) (k : Nat) (c : Int) : se_v ρ (0, k, c) = some (.int (Int32.ofInt c)) := rfl
theorem se_v_new (ρ : List Value) (x : Value) : se_v (ρ ++ [x]) (1, ρ.length, 0) = some x := by
  unfold se_v
  rw [if_neg (show ¬ ((1 : Int) = 0) by decide)]
  simp only [List.getElem?_concat_length]
  cases x <;> simp
theorem se_get_set {mem : List mm_C} {p i : Nat} {x y : Value} (h : se_get mem p i = some y) : se_get (se_set mem p i x) p i = some x := by
  unfold se_get at h
  unfold se_set
  split at h
  · next a e =>
    have hp := (List.getElem?_eq_some_iff.mp e).1
    have hi := (List.getElem?_eq_some_iff.mp h).1
    simp only [se_get, List.getElem?_set, if_true, hp, hi]
  · next a e =>
    have hp := (List.getElem?_eq_some_iff.mp e).1
    have hi := (List.getElem?_eq_some_iff.mp h).1
    simp only [se_get, List.getElem?_set, if_true, hp, hi]
  · cases h
theorem se_get_set_ne {mem : List mm_C} {p i q j : Nat} {x : Value} (h : q ≠ p ∨ j ≠ i) : se_get (se_set mem p i x) q j = se_get mem q j := by
  unfold se_set
  split
  · next a e =>
    by_cases hq : q = p
    · subst hq
      have hp := (List.getElem?_eq_some_iff.mp e).1
      have hj : j ≠ i := by rcases h with h | h; exact absurd rfl h; exact h
      simp only [se_get, List.getElem?_set, if_true, hp, e]
      rw [if_neg (fun e => hj e.symm)]
    · simp only [se_get]
      rw [List.getElem?_set_ne (fun e => hq e.symm)]
  · next a e =>
    by_cases hq : q = p
    · subst hq
      have hp := (List.getElem?_eq_some_iff.mp e).1
      have hj : j ≠ i := by rcases h with h | h; exact absurd rfl h; exact h
      simp only [se_get, List.getElem?_set, if_true, hp, e]
      rw [if_neg (fun e => hj e.symm)]
    · simp only [se_get]
      rw [List.getElem?_set_ne (fun e => hq e.symm)]
  · rfl
theorem se_set_at {mem : List mm_C} {p i q : Nat} {x : Value} (h : q ≠ p) : (se_set mem p i x)[q]? = mem[q]? := by
  unfold se_set
  split
  · rw [List.getElem?_set_ne (fun e => h e.symm)]
  · rw [List.getElem?_set_ne (fun e => h e.symm)]
  · rfl
theorem se_tc_get {ty : Nat → Option Nat} {t : se_Ty} {mem : List mm_C} {p i : Nat} (h : se_tc ty t mem[p]?) (hi : i < t.2.2.1) : ∃ x, se_get mem p i = some x ∧ se_k ty (se_seg t.2.2.2 i) x := by
  unfold se_tc at h
  unfold se_get
  split at h
  · obtain ⟨fs, e, h1, h2⟩ := h
    rw [e]
    exact h2 i hi
  · obtain ⟨fs, e, h1, h2⟩ := h
    rw [e]
    exact h2 i hi
theorem se_tm_set {ty : Nat → Option Nat} {tt : Nat → se_Ty} {mem : List mm_C} {p i t : Nat} {x : Value} (hm : se_tm ty tt mem) (ht : ty p = some t) (hx : se_k ty (se_seg (tt t).2.2.2 i) x) : se_tm ty tt (se_set mem p i x) := by
  intro q u hu
  by_cases hq : q = p
  · subst hq
    rw [ht] at hu
    cases hu
    have h := hm q t ht
    unfold se_tc at h ⊢
    split at h
    · next ci e0 =>
      obtain ⟨fs, e, h1, h2⟩ := h
      have hp := (List.getElem?_eq_some_iff.mp e).1
      refine ⟨fs.set i x, ?_, by rw [List.length_set]; exact h1, fun j hj => ?_⟩
      · unfold se_set
        rw [e]
        simp only [List.getElem?_set, if_true, hp]
      · by_cases hji : i = j
        · subst hji
          exact ⟨x, by rw [List.getElem?_set]; simp [h1, hj], hx⟩
        · rw [List.getElem?_set_ne hji]
          exact h2 j hj
    · next e0 =>
      obtain ⟨fs, e, h1, h2⟩ := h
      have hp := (List.getElem?_eq_some_iff.mp e).1
      refine ⟨fs.set i x, ?_, by rw [List.length_set]; exact h1, fun j hj => ?_⟩
      · unfold se_set
        rw [e]
        simp only [List.getElem?_set, if_true, hp]
      · by_cases hji : i = j
        · subst hji
          exact ⟨x, by rw [List.getElem?_set]; simp [h1, hj], hx⟩
        · rw [List.getElem?_set_ne hji]
          exact h2 j hj
  · rw [se_set_at hq]
    exact hm q u hu
