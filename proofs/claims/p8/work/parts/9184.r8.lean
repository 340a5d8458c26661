/-! ===== printed by wip/iv/gen_r8.py: image, restore ===== -/
def ks (K : Int → Int → Prop) (μ μ' : iv_M) : Prop := ∀ p k, K p k → μ' p k = μ p k
theorem ks_rfl {K : Int → Int → Prop} (μ : iv_M) : ks K μ μ := fun _ _ _ => rfl
theorem ks_up {K : Int → Int → Prop} {a b : iv_M} {p k v : Int} (h : ks K a b) (s : ¬ K p k) : ks K a (iv_upd b p k v) := fun q j hq => by
  rw [iv_upd_ne b v (show q ≠ p ∨ j ≠ k from Decidable.byContradiction (fun c => s (by
    have : q = p ∧ j = k := by omega
    rw [← this.1, ← this.2]
    exact hq)))]
  exact h q j hq
theorem ks_cp {K : Int → Int → Prop} {a b : iv_M} {s sp e dp n : Int} (h : ks K a b) (c : ∀ k, ¬ K e k) : ks K a (iv_cpy b s sp e dp n) := fun q j hq => by
  unfold iv_cpy
  rw [if_neg (fun (z : q = e ∧ dp ≤ j ∧ j < dp + n) => c j (z.1 ▸ hq))]
  exact h q j hq
section R8S
variable {L : Nat} {xs : Nat → Int32} {vz : Value} {μ : iv_M}
theorem nb {c s : Nat} {n : Nat} {k : Nat} (hs : ∀ i, i < n → iv_sk (iv_pl (i * s + c)) k = 4) (hN : iv_N μ) {i : Int} (i0 : 0 ≤ i) (i1 : i < n) : 0 ≤ μ (i * s + c) k ∧ μ (i * s + c) k < 2 := by
  obtain ⟨j, rfl⟩ := Int.eq_ofNat_of_zero_le i0
  have h := hN (j * s + c) k
  rw [hs j (by omega)] at h
  have h : 0 ≤ μ ((j * s + c : Nat) : Int) k ∧ μ ((j * s + c : Nat) : Int) k ≤ 1 := h
  rw [show ((j * s + c : Nat) : Int) = (j : Int) * s + c by simp] at h
  omega
theorem nb1 {c : Nat} {n : Nat} {k : Nat} (hs : ∀ i, i < n → iv_sk (iv_pl (i + c)) k = 4) (hN : iv_N μ) {i : Int} (i0 : 0 ≤ i) (i1 : i < n) : 0 ≤ μ (i + c) k ∧ μ (i + c) k < 2 := by
  obtain ⟨j, rfl⟩ := Int.eq_ofNat_of_zero_le i0
  have h := hN (j + c) k
  rw [hs j (by omega)] at h
  have h : 0 ≤ μ ((j + c : Nat) : Int) k ∧ μ ((j + c : Nat) : Int) k ≤ 1 := h
  rw [show ((j + c : Nat) : Int) = (j : Int) + c by omega] at h
  omega
abbrev KA_i (p k : Int) : Prop := (p = 106 ∧ k = 2) ∨ (122 ≤ p ∧ p < 132 ∧ (k = 0 ∨ k = 2 ∨ k = 6)) ∨ (p = 39 ∧ (k = 4 ∨ k = 9))
abbrev KB_i (p k : Int) : Prop := (p = 106 ∧ (k = 2 ∨ k = 4)) ∨ (122 ≤ p ∧ p < 132 ∧ (k = 0 ∨ k = 2 ∨ k = 6)) ∨ (p = 39 ∧ k = 9)
theorem tk_i_135 {d : Nat} (hL : L ≤ 3072) (hd : 6 ≤ d) {P : iv_P} {μ0 : iv_M} (hP : ∀ μ', ks (fun p k => (p = 106 ∧ (k = 2 ∨ k = 4)) ∨ (122 ≤ p ∧ p < 132 ∧ (k = 0 ∨ k = 2 ∨ k = 6))) μ0 μ' → μ' 106 9 = μ0 39 9 → P none μ') : ∀ (n : Nat) (l : Int) (μ : iv_M), 0 ≤ l → 5 ≤ l + n → ks KB_i μ0 μ → iv_G L xs vz d 206 135 [some (12, 106), some (12, 39), some (0, l)] [] μ P := by
  intro n
  have fin : ∀ (μ : iv_M) (l : Int), ks KB_i μ0 μ → P none (iv_upd (iv_upd (iv_upd μ 106 9 (μ 39 9)) 106 10 ((iv_upd μ 106 9 (μ 39 9)) 39 10)) 106 11 ((iv_upd (iv_upd μ 106 9 (μ 39 9)) 106 10 ((iv_upd μ 106 9 (μ 39 9)) 39 10)) 39 11)) := fun μ l hk => by
    refine hP _ (fun p k hq => ?_) ?_
    · have := hk p k (by omega)
      rw [← this]
      rw [iv_upd_ne _ _ (show p ≠ 106 ∨ k ≠ 11 by omega), iv_upd_ne _ _ (show p ≠ 106 ∨ k ≠ 10 by omega), iv_upd_ne _ _ (show p ≠ 106 ∨ k ≠ 9 by omega)]
    · rw [iv_upd_ne _ _ (Or.inr (by decide)), iv_upd_ne _ _ (Or.inr (by decide))]
      rw [iv_upd_same]
      exact hk 39 9 (by omega)
  induction n with
  | zero =>
    intro l μ h0 h1 hk
    refine sgi_206_135 hL hd h0 ?_ ?_ ?_ <;> intros <;> first | (exfalso; omega) | exact fin _ l hk
  | succ n ih =>
    intro l μ h0 h1 hk
    refine iv_intro (fun hN _ _ => ?_)
    refine sgi_206_135 hL hd h0 ?_ ?_ ?_ <;> intros
    · exact fin _ l hk
    · exact ih _ _ (by omega) (by omega) (ks_cp (ks_cp (ks_up (ks_up hk (by omega)) (by omega)) (fun k => by omega)) (fun k => by omega))
    · next h1 h2 =>
      refine h2 ?_
      exact nb (c := 91) (s := 3) (n := 5) (k := 0) (by decide +kernel) hN h0 (by omega)
theorem tk_i_87 {d : Nat} (hL : L ≤ 3072) (hd : 6 ≤ d) {P : iv_P} {μ0 : iv_M} (hP : ∀ μ', ks (fun p k => (p = 106 ∧ (k = 2 ∨ k = 4)) ∨ (122 ≤ p ∧ p < 132 ∧ (k = 0 ∨ k = 2 ∨ k = 6))) μ0 μ' → μ' 106 9 = μ0 39 9 → P none μ') : ∀ (n : Nat) (l : Int) (μ : iv_M), 0 ≤ l → 12 ≤ l + n → ks KB_i μ0 μ → iv_G L xs vz d 206 87 [some (12, 106), some (12, 39), some (0, l)] [] μ P := by
  intro n
  induction n with
  | zero =>
    intro l μ h0 h1 hk
    refine sgi_206_87 hL hd h0 ?_ ?_ ?_ <;> intros <;> first | (exfalso; omega) | exact tk_i_135 hL hd hP 5 0 _ (by decide) (by decide) (ks_up (ks_cp (ks_cp (ks_up (ks_up (ks_cp (ks_cp (ks_cp (ks_cp (ks_up hk (by omega)) (fun k => by omega)) (fun k => by omega)) (fun k => by omega)) (fun k => by omega)) (by omega)) (by omega)) (fun k => by omega)) (fun k => by omega)) (by omega))
  | succ n ih =>
    intro l μ h0 h1 hk
    refine iv_intro (fun hN _ _ => ?_)
    refine sgi_206_87 hL hd h0 ?_ ?_ ?_ <;> intros
    · exact tk_i_135 hL hd hP 5 0 _ (by decide) (by decide) (ks_up (ks_cp (ks_cp (ks_up (ks_up (ks_cp (ks_cp (ks_cp (ks_cp (ks_up hk (by omega)) (fun k => by omega)) (fun k => by omega)) (fun k => by omega)) (fun k => by omega)) (by omega)) (by omega)) (fun k => by omega)) (fun k => by omega)) (by omega))
    · exact ih _ _ (by omega) (by omega) (ks_up (ks_up (ks_up (ks_up (ks_up (ks_up (ks_up (ks_up (ks_up (ks_up (ks_up hk (by omega)) (by omega)) (by omega)) (by omega)) (by omega)) (by omega)) (by omega)) (by omega)) (by omega)) (by omega)) (by omega))
    · next h1 h2 =>
      refine h2 ?_
      rw [iv_upd_ne _ _ (Or.inl (by omega)), iv_upd_ne _ _ (Or.inl (by omega)), iv_upd_ne _ _ (Or.inl (by omega)), iv_upd_ne _ _ (Or.inl (by omega)), iv_upd_ne _ _ (Or.inl (by omega)), iv_upd_ne _ _ (Or.inl (by omega)), iv_upd_ne _ _ (Or.inl (by omega)), iv_upd_ne _ _ (Or.inl (by omega)), iv_upd_ne _ _ (Or.inl (by omega)), iv_upd_ne _ _ (Or.inl (by omega))]
      exact nb1 (c := 79) (n := 12) (k := 7) (by decide +kernel) hN h0 (by omega)
theorem tk_i_50 {d : Nat} (hL : L ≤ 3072) (hd : 6 ≤ d) {P : iv_P} {μ0 : iv_M} (hP : ∀ μ', ks (fun p k => (p = 106 ∧ k = 2) ∨ (122 ≤ p ∧ p < 132 ∧ (k = 0 ∨ k = 2 ∨ k = 6))) μ0 μ' → μ' 106 4 = μ0 39 4 → μ' 106 9 = μ0 39 9 → P none μ') : ∀ (n : Nat) (l : Int) (μ : iv_M), 0 ≤ l → 14 ≤ l + n → ks KA_i μ0 μ → iv_G L xs vz d 206 50 [some (12, 106), some (12, 39), some (0, l)] [] μ P := by
  intro n
  have fin : ∀ (μ : iv_M), ks KA_i μ0 μ → iv_G L xs vz d 206 87 [some (12, 106), some (12, 39), some (0, 0)] [] (iv_upd μ 106 4 (μ 39 4)) P := fun μ hk => by
    refine tk_i_87 hL hd (μ0 := iv_upd μ 106 4 (μ 39 4)) (fun μ' h e => hP μ' (fun p k hq => ?_) ?_ ?_) 12 0 _ (by decide) (by decide) (ks_rfl _)
    · rw [h p k (by omega), iv_upd_ne _ _ (show p ≠ 106 ∨ k ≠ 4 by omega)]
      exact hk p k (by omega)
    · rw [h 106 4 (by omega), iv_upd_same]
      exact hk 39 4 (by omega)
    · rw [e, iv_upd_ne _ _ (Or.inr (by decide))]
      exact hk 39 9 (by omega)
  induction n with
  | zero =>
    intro l μ h0 h1 hk
    refine sgi_206_50 hL hd h0 ?_ ?_ ?_ <;> intros <;> first | (exfalso; omega) | exact fin _ hk
  | succ n ih =>
    intro l μ h0 h1 hk
    refine iv_intro (fun hN _ _ => ?_)
    refine sgi_206_50 hL hd h0 ?_ ?_ ?_ <;> intros
    · exact fin _ hk
    · exact ih _ _ (by omega) (by omega) (ks_up (ks_up (ks_up (ks_up (ks_up (ks_up (ks_up (ks_up (ks_up (ks_up hk (by omega)) (by omega)) (by omega)) (by omega)) (by omega)) (by omega)) (by omega)) (by omega)) (by omega)) (by omega))
    · next h1 h2 =>
      refine h2 ?_
      rw [iv_upd_ne _ _ (Or.inl (by omega)), iv_upd_ne _ _ (Or.inl (by omega)), iv_upd_ne _ _ (Or.inl (by omega)), iv_upd_ne _ _ (Or.inl (by omega)), iv_upd_ne _ _ (Or.inl (by omega)), iv_upd_ne _ _ (Or.inl (by omega)), iv_upd_ne _ _ (Or.inl (by omega)), iv_upd_ne _ _ (Or.inl (by omega)), iv_upd_ne _ _ (Or.inl (by omega))]
      exact nb1 (c := 65) (n := 14) (k := 6) (by decide +kernel) hN h0 (by omega)
theorem tk_i_13 {d : Nat} (hL : L ≤ 3072) (hd : 6 ≤ d) {P : iv_P} {μ0 : iv_M} (hP : ∀ μ, veq (vC μ0) (vK μ) → P none μ) : ∀ (n : Nat) (l : Int) (μ : iv_M), 0 ≤ l → 10 ≤ l + n → l ≤ 10 → (μ 39 2 = μ0 39 2 ∧ μ 39 4 = μ0 39 4 ∧ μ 39 9 = μ0 39 9) → (∀ i : Int, 0 ≤ i → i < 10 → μ (i + 55) 0 = μ0 (i + 55) 0 ∧ μ (i + 55) 2 = μ0 (i + 55) 2 ∧ μ (i + 55) 6 = μ0 (i + 55) 6) → (∀ i : Int, 0 ≤ i → i < l → μ (i + 122) 0 = μ0 (i + 55) 0 ∧ μ (i + 122) 2 = μ0 (i + 55) 2 ∧ μ (i + 122) 6 = μ0 (i + 55) 6) → iv_G L xs vz d 206 13 [some (12, 106), some (12, 39), some (0, l)] [] μ P := by
  intro n
  have fin : ∀ (l : Int) (μ : iv_M), l ≥ 10 → (μ 39 2 = μ0 39 2 ∧ μ 39 4 = μ0 39 4 ∧ μ 39 9 = μ0 39 9) → (∀ i : Int, 0 ≤ i → i < l → μ (i + 122) 0 = μ0 (i + 55) 0 ∧ μ (i + 122) 2 = μ0 (i + 55) 2 ∧ μ (i + 122) 6 = μ0 (i + 55) 6) → iv_G L xs vz d 206 50 [some (12, 106), some (12, 39), some (0, 0)] [] (iv_upd μ 106 2 (μ 39 2)) P := by
    intro l μ hl e1 e3
    refine tk_i_50 hL hd (μ0 := iv_upd μ 106 2 (μ 39 2)) (fun μ' h e4 e9 => ?_) 14 0 _ (by decide) (by decide) (ks_rfl _)
    refine hP μ' ⟨?_, ?_, ?_, fun i i0 i1 => ?_⟩
    · show μ' 106 2 = μ0 39 2
      rw [h 106 2 (by omega), iv_upd_same, e1.1]
    · show μ' 106 4 = μ0 39 4
      rw [e4, iv_upd_ne _ _ (Or.inr (by decide)), e1.2.1]
    · show μ' 106 9 = μ0 39 9
      rw [e9, iv_upd_ne _ _ (Or.inr (by decide)), e1.2.2]
    · obtain ⟨a, b, c⟩ := e3 i i0 (by omega)
      refine ⟨?_, ?_, ?_⟩
      · show μ' (i + 122) 0 = μ0 (i + 55) 0
        rw [h (i + 122) 0 (by omega), iv_upd_ne _ _ (Or.inl (by omega)), a]
      · show μ' (i + 122) 2 = μ0 (i + 55) 2
        rw [h (i + 122) 2 (by omega), iv_upd_ne _ _ (Or.inl (by omega)), b]
      · show μ' (i + 122) 6 = μ0 (i + 55) 6
        rw [h (i + 122) 6 (by omega), iv_upd_ne _ _ (Or.inl (by omega)), c]
  induction n with
  | zero =>
    intro l μ h0 h1 h9 e1 e2 e3
    refine sgi_206_13 hL hd h0 ?_ ?_ ?_ <;> intros <;> first | (exfalso; omega) | exact fin l μ (by omega) e1 e3
  | succ n ih =>
    intro l μ h0 h1 h9 e1 e2 e3
    refine iv_intro (fun hN _ _ => ?_)
    refine sgi_206_13 hL hd h0 ?_ ?_ ?_ <;> intros
    · exact fin l μ (by omega) e1 e3
    · refine ih _ _ (by omega) (by omega) (by omega) ⟨?_, ?_, ?_⟩ (fun i i0 i1 => ?_) (fun i i0 i1 => ?_)
      · (repeat (first | rw [iv_upd_ne _ _ (Or.inl (by omega))] | rw [iv_upd_ne _ _ (Or.inr (by decide))]))
        exact e1.1
      · (repeat (first | rw [iv_upd_ne _ _ (Or.inl (by omega))] | rw [iv_upd_ne _ _ (Or.inr (by decide))]))
        exact e1.2.1
      · (repeat (first | rw [iv_upd_ne _ _ (Or.inl (by omega))] | rw [iv_upd_ne _ _ (Or.inr (by decide))]))
        exact e1.2.2
      · obtain ⟨a, b, c⟩ := e2 i i0 i1
        refine ⟨?_, ?_, ?_⟩
        · (repeat (first | rw [iv_upd_ne _ _ (Or.inl (by omega))] | rw [iv_upd_ne _ _ (Or.inr (by decide))]))
          exact a
        · (repeat (first | rw [iv_upd_ne _ _ (Or.inl (by omega))] | rw [iv_upd_ne _ _ (Or.inr (by decide))]))
          exact b
        · (repeat (first | rw [iv_upd_ne _ _ (Or.inl (by omega))] | rw [iv_upd_ne _ _ (Or.inr (by decide))]))
          exact c
      · by_cases hi : i = l
        · subst hi
          obtain ⟨a, b, c⟩ := e2 i i0 (by omega)
          refine ⟨?_, ?_, ?_⟩
          · (repeat (first | rw [iv_upd_ne _ _ (Or.inl (by omega))] | rw [iv_upd_ne _ _ (Or.inr (by decide))]))
            rw [iv_upd_same]
            exact a
          · (repeat (first | rw [iv_upd_ne _ _ (Or.inl (by omega))] | rw [iv_upd_ne _ _ (Or.inr (by decide))]))
            rw [iv_upd_same]
            exact b
          · (repeat (first | rw [iv_upd_ne _ _ (Or.inl (by omega))] | rw [iv_upd_ne _ _ (Or.inr (by decide))]))
            rw [iv_upd_same]
            (repeat (first | rw [iv_upd_ne _ _ (Or.inl (by omega))] | rw [iv_upd_ne _ _ (Or.inr (by decide))]))
            exact c
        · obtain ⟨a, b, c⟩ := e3 i i0 (by omega)
          refine ⟨?_, ?_, ?_⟩
          · (repeat (first | rw [iv_upd_ne _ _ (Or.inl (by omega))] | rw [iv_upd_ne _ _ (Or.inr (by decide))]))
            exact a
          · (repeat (first | rw [iv_upd_ne _ _ (Or.inl (by omega))] | rw [iv_upd_ne _ _ (Or.inr (by decide))]))
            exact b
          · (repeat (first | rw [iv_upd_ne _ _ (Or.inl (by omega))] | rw [iv_upd_ne _ _ (Or.inr (by decide))]))
            exact c
    · next h1 h2 =>
      refine h2 ?_
      rw [iv_upd_ne _ _ (Or.inl (by omega)), iv_upd_ne _ _ (Or.inl (by omega)), iv_upd_ne _ _ (Or.inl (by omega)), iv_upd_ne _ _ (Or.inl (by omega)), iv_upd_ne _ _ (Or.inl (by omega)), iv_upd_ne _ _ (Or.inl (by omega)), iv_upd_ne _ _ (Or.inl (by omega)), iv_upd_ne _ _ (Or.inl (by omega)), iv_upd_ne _ _ (Or.inl (by omega))]
      exact nb1 (c := 55) (n := 10) (k := 6) (by decide +kernel) hN h0 (by omega)
theorem tk_i {d : Nat} (hL : L ≤ 3072) (hd : 6 ≤ d) : iv_C L xs vz d 206 [(12, 106), (12, 39)] μ (fun r μ' => r = none ∧ veq (vC μ) (vK μ')) := by
  refine iv_C_of (sgi_206_0 hL hd ?_)
  have c1 : ∀ p k, p ≠ 108 → p ≠ 109 → iv_cpy (iv_cpy μ 41 0 108 0 36) 42 0 109 0 36 p k = μ p k := fun p k a b => by
    unfold iv_cpy
    rw [if_neg (fun (z : p = 109 ∧ _) => b z.1), if_neg (fun (z : p = 108 ∧ _) => a z.1)]
  exact tk_i_13 hL hd (μ0 := μ) (fun μ' a => ⟨rfl, a⟩) 10 0 _ (by decide) (by decide) (by decide) ⟨c1 _ _ (by decide) (by decide), c1 _ _ (by decide) (by decide), c1 _ _ (by decide) (by decide)⟩ (fun i i0 i1 => ⟨c1 _ _ (by omega) (by omega), c1 _ _ (by omega) (by omega), c1 _ _ (by omega) (by omega)⟩) (fun i i0 i1 => by omega)
abbrev KA_r (p k : Int) : Prop := (p = 39 ∧ k = 2) ∨ (55 ≤ p ∧ p < 65 ∧ (k = 0 ∨ k = 2 ∨ k = 6)) ∨ (p = 106 ∧ (k = 4 ∨ k = 9))
abbrev KB_r (p k : Int) : Prop := (p = 39 ∧ (k = 2 ∨ k = 4)) ∨ (55 ≤ p ∧ p < 65 ∧ (k = 0 ∨ k = 2 ∨ k = 6)) ∨ (p = 106 ∧ k = 9)
theorem tk_r_135 {d : Nat} (hL : L ≤ 3072) (hd : 6 ≤ d) {P : iv_P} {μ0 : iv_M} (hP : ∀ μ', ks (fun p k => (p = 39 ∧ (k = 2 ∨ k = 4)) ∨ (55 ≤ p ∧ p < 65 ∧ (k = 0 ∨ k = 2 ∨ k = 6))) μ0 μ' → μ' 39 9 = μ0 106 9 → P none μ') : ∀ (n : Nat) (l : Int) (μ : iv_M), 0 ≤ l → 5 ≤ l + n → ks KB_r μ0 μ → iv_G L xs vz d 206 135 [some (12, 39), some (12, 106), some (0, l)] [] μ P := by
  intro n
  have fin : ∀ (μ : iv_M) (l : Int), ks KB_r μ0 μ → P none (iv_upd (iv_upd (iv_upd μ 39 9 (μ 106 9)) 39 10 ((iv_upd μ 39 9 (μ 106 9)) 106 10)) 39 11 ((iv_upd (iv_upd μ 39 9 (μ 106 9)) 39 10 ((iv_upd μ 39 9 (μ 106 9)) 106 10)) 106 11)) := fun μ l hk => by
    refine hP _ (fun p k hq => ?_) ?_
    · have := hk p k (by omega)
      rw [← this]
      rw [iv_upd_ne _ _ (show p ≠ 39 ∨ k ≠ 11 by omega), iv_upd_ne _ _ (show p ≠ 39 ∨ k ≠ 10 by omega), iv_upd_ne _ _ (show p ≠ 39 ∨ k ≠ 9 by omega)]
    · rw [iv_upd_ne _ _ (Or.inr (by decide)), iv_upd_ne _ _ (Or.inr (by decide))]
      rw [iv_upd_same]
      exact hk 106 9 (by omega)
  induction n with
  | zero =>
    intro l μ h0 h1 hk
    refine sgr_206_135 hL hd h0 ?_ ?_ ?_ <;> intros <;> first | (exfalso; omega) | exact fin _ l hk
  | succ n ih =>
    intro l μ h0 h1 hk
    refine iv_intro (fun hN _ _ => ?_)
    refine sgr_206_135 hL hd h0 ?_ ?_ ?_ <;> intros
    · exact fin _ l hk
    · exact ih _ _ (by omega) (by omega) (ks_cp (ks_cp (ks_up (ks_up hk (by omega)) (by omega)) (fun k => by omega)) (fun k => by omega))
    · next h1 h2 =>
      refine h2 ?_
      exact nb (c := 158) (s := 3) (n := 5) (k := 0) (by decide +kernel) hN h0 (by omega)
theorem tk_r_87 {d : Nat} (hL : L ≤ 3072) (hd : 6 ≤ d) {P : iv_P} {μ0 : iv_M} (hP : ∀ μ', ks (fun p k => (p = 39 ∧ (k = 2 ∨ k = 4)) ∨ (55 ≤ p ∧ p < 65 ∧ (k = 0 ∨ k = 2 ∨ k = 6))) μ0 μ' → μ' 39 9 = μ0 106 9 → P none μ') : ∀ (n : Nat) (l : Int) (μ : iv_M), 0 ≤ l → 12 ≤ l + n → ks KB_r μ0 μ → iv_G L xs vz d 206 87 [some (12, 39), some (12, 106), some (0, l)] [] μ P := by
  intro n
  induction n with
  | zero =>
    intro l μ h0 h1 hk
    refine sgr_206_87 hL hd h0 ?_ ?_ ?_ <;> intros <;> first | (exfalso; omega) | exact tk_r_135 hL hd hP 5 0 _ (by decide) (by decide) (ks_up (ks_cp (ks_cp (ks_up (ks_up (ks_cp (ks_cp (ks_cp (ks_cp (ks_up hk (by omega)) (fun k => by omega)) (fun k => by omega)) (fun k => by omega)) (fun k => by omega)) (by omega)) (by omega)) (fun k => by omega)) (fun k => by omega)) (by omega))
  | succ n ih =>
    intro l μ h0 h1 hk
    refine iv_intro (fun hN _ _ => ?_)
    refine sgr_206_87 hL hd h0 ?_ ?_ ?_ <;> intros
    · exact tk_r_135 hL hd hP 5 0 _ (by decide) (by decide) (ks_up (ks_cp (ks_cp (ks_up (ks_up (ks_cp (ks_cp (ks_cp (ks_cp (ks_up hk (by omega)) (fun k => by omega)) (fun k => by omega)) (fun k => by omega)) (fun k => by omega)) (by omega)) (by omega)) (fun k => by omega)) (fun k => by omega)) (by omega))
    · exact ih _ _ (by omega) (by omega) (ks_up (ks_up (ks_up (ks_up (ks_up (ks_up (ks_up (ks_up (ks_up (ks_up (ks_up hk (by omega)) (by omega)) (by omega)) (by omega)) (by omega)) (by omega)) (by omega)) (by omega)) (by omega)) (by omega)) (by omega))
    · next h1 h2 =>
      refine h2 ?_
      rw [iv_upd_ne _ _ (Or.inl (by omega)), iv_upd_ne _ _ (Or.inl (by omega)), iv_upd_ne _ _ (Or.inl (by omega)), iv_upd_ne _ _ (Or.inl (by omega)), iv_upd_ne _ _ (Or.inl (by omega)), iv_upd_ne _ _ (Or.inl (by omega)), iv_upd_ne _ _ (Or.inl (by omega)), iv_upd_ne _ _ (Or.inl (by omega)), iv_upd_ne _ _ (Or.inl (by omega)), iv_upd_ne _ _ (Or.inl (by omega))]
      exact nb1 (c := 146) (n := 12) (k := 7) (by decide +kernel) hN h0 (by omega)
theorem tk_r_50 {d : Nat} (hL : L ≤ 3072) (hd : 6 ≤ d) {P : iv_P} {μ0 : iv_M} (hP : ∀ μ', ks (fun p k => (p = 39 ∧ k = 2) ∨ (55 ≤ p ∧ p < 65 ∧ (k = 0 ∨ k = 2 ∨ k = 6))) μ0 μ' → μ' 39 4 = μ0 106 4 → μ' 39 9 = μ0 106 9 → P none μ') : ∀ (n : Nat) (l : Int) (μ : iv_M), 0 ≤ l → 14 ≤ l + n → ks KA_r μ0 μ → iv_G L xs vz d 206 50 [some (12, 39), some (12, 106), some (0, l)] [] μ P := by
  intro n
  have fin : ∀ (μ : iv_M), ks KA_r μ0 μ → iv_G L xs vz d 206 87 [some (12, 39), some (12, 106), some (0, 0)] [] (iv_upd μ 39 4 (μ 106 4)) P := fun μ hk => by
    refine tk_r_87 hL hd (μ0 := iv_upd μ 39 4 (μ 106 4)) (fun μ' h e => hP μ' (fun p k hq => ?_) ?_ ?_) 12 0 _ (by decide) (by decide) (ks_rfl _)
    · rw [h p k (by omega), iv_upd_ne _ _ (show p ≠ 39 ∨ k ≠ 4 by omega)]
      exact hk p k (by omega)
    · rw [h 39 4 (by omega), iv_upd_same]
      exact hk 106 4 (by omega)
    · rw [e, iv_upd_ne _ _ (Or.inr (by decide))]
      exact hk 106 9 (by omega)
  induction n with
  | zero =>
    intro l μ h0 h1 hk
    refine sgr_206_50 hL hd h0 ?_ ?_ ?_ <;> intros <;> first | (exfalso; omega) | exact fin _ hk
  | succ n ih =>
    intro l μ h0 h1 hk
    refine iv_intro (fun hN _ _ => ?_)
    refine sgr_206_50 hL hd h0 ?_ ?_ ?_ <;> intros
    · exact fin _ hk
    · exact ih _ _ (by omega) (by omega) (ks_up (ks_up (ks_up (ks_up (ks_up (ks_up (ks_up (ks_up (ks_up (ks_up hk (by omega)) (by omega)) (by omega)) (by omega)) (by omega)) (by omega)) (by omega)) (by omega)) (by omega)) (by omega))
    · next h1 h2 =>
      refine h2 ?_
      rw [iv_upd_ne _ _ (Or.inl (by omega)), iv_upd_ne _ _ (Or.inl (by omega)), iv_upd_ne _ _ (Or.inl (by omega)), iv_upd_ne _ _ (Or.inl (by omega)), iv_upd_ne _ _ (Or.inl (by omega)), iv_upd_ne _ _ (Or.inl (by omega)), iv_upd_ne _ _ (Or.inl (by omega)), iv_upd_ne _ _ (Or.inl (by omega)), iv_upd_ne _ _ (Or.inl (by omega))]
      exact nb1 (c := 132) (n := 14) (k := 6) (by decide +kernel) hN h0 (by omega)
theorem tk_r_13 {d : Nat} (hL : L ≤ 3072) (hd : 6 ≤ d) {P : iv_P} {μ0 : iv_M} (hP : ∀ μ, veq (vK μ0) (vC μ) → P none μ) : ∀ (n : Nat) (l : Int) (μ : iv_M), 0 ≤ l → 10 ≤ l + n → l ≤ 10 → (μ 106 2 = μ0 106 2 ∧ μ 106 4 = μ0 106 4 ∧ μ 106 9 = μ0 106 9) → (∀ i : Int, 0 ≤ i → i < 10 → μ (i + 122) 0 = μ0 (i + 122) 0 ∧ μ (i + 122) 2 = μ0 (i + 122) 2 ∧ μ (i + 122) 6 = μ0 (i + 122) 6) → (∀ i : Int, 0 ≤ i → i < l → μ (i + 55) 0 = μ0 (i + 122) 0 ∧ μ (i + 55) 2 = μ0 (i + 122) 2 ∧ μ (i + 55) 6 = μ0 (i + 122) 6) → iv_G L xs vz d 206 13 [some (12, 39), some (12, 106), some (0, l)] [] μ P := by
  intro n
  have fin : ∀ (l : Int) (μ : iv_M), l ≥ 10 → (μ 106 2 = μ0 106 2 ∧ μ 106 4 = μ0 106 4 ∧ μ 106 9 = μ0 106 9) → (∀ i : Int, 0 ≤ i → i < l → μ (i + 55) 0 = μ0 (i + 122) 0 ∧ μ (i + 55) 2 = μ0 (i + 122) 2 ∧ μ (i + 55) 6 = μ0 (i + 122) 6) → iv_G L xs vz d 206 50 [some (12, 39), some (12, 106), some (0, 0)] [] (iv_upd μ 39 2 (μ 106 2)) P := by
    intro l μ hl e1 e3
    refine tk_r_50 hL hd (μ0 := iv_upd μ 39 2 (μ 106 2)) (fun μ' h e4 e9 => ?_) 14 0 _ (by decide) (by decide) (ks_rfl _)
    refine hP μ' ⟨?_, ?_, ?_, fun i i0 i1 => ?_⟩
    · show μ' 39 2 = μ0 106 2
      rw [h 39 2 (by omega), iv_upd_same, e1.1]
    · show μ' 39 4 = μ0 106 4
      rw [e4, iv_upd_ne _ _ (Or.inr (by decide)), e1.2.1]
    · show μ' 39 9 = μ0 106 9
      rw [e9, iv_upd_ne _ _ (Or.inr (by decide)), e1.2.2]
    · obtain ⟨a, b, c⟩ := e3 i i0 (by omega)
      refine ⟨?_, ?_, ?_⟩
      · show μ' (i + 55) 0 = μ0 (i + 122) 0
        rw [h (i + 55) 0 (by omega), iv_upd_ne _ _ (Or.inl (by omega)), a]
      · show μ' (i + 55) 2 = μ0 (i + 122) 2
        rw [h (i + 55) 2 (by omega), iv_upd_ne _ _ (Or.inl (by omega)), b]
      · show μ' (i + 55) 6 = μ0 (i + 122) 6
        rw [h (i + 55) 6 (by omega), iv_upd_ne _ _ (Or.inl (by omega)), c]
  induction n with
  | zero =>
    intro l μ h0 h1 h9 e1 e2 e3
    refine sgr_206_13 hL hd h0 ?_ ?_ ?_ <;> intros <;> first | (exfalso; omega) | exact fin l μ (by omega) e1 e3
  | succ n ih =>
    intro l μ h0 h1 h9 e1 e2 e3
    refine iv_intro (fun hN _ _ => ?_)
    refine sgr_206_13 hL hd h0 ?_ ?_ ?_ <;> intros
    · exact fin l μ (by omega) e1 e3
    · refine ih _ _ (by omega) (by omega) (by omega) ⟨?_, ?_, ?_⟩ (fun i i0 i1 => ?_) (fun i i0 i1 => ?_)
      · (repeat (first | rw [iv_upd_ne _ _ (Or.inl (by omega))] | rw [iv_upd_ne _ _ (Or.inr (by decide))]))
        exact e1.1
      · (repeat (first | rw [iv_upd_ne _ _ (Or.inl (by omega))] | rw [iv_upd_ne _ _ (Or.inr (by decide))]))
        exact e1.2.1
      · (repeat (first | rw [iv_upd_ne _ _ (Or.inl (by omega))] | rw [iv_upd_ne _ _ (Or.inr (by decide))]))
        exact e1.2.2
      · obtain ⟨a, b, c⟩ := e2 i i0 i1
        refine ⟨?_, ?_, ?_⟩
        · (repeat (first | rw [iv_upd_ne _ _ (Or.inl (by omega))] | rw [iv_upd_ne _ _ (Or.inr (by decide))]))
          exact a
        · (repeat (first | rw [iv_upd_ne _ _ (Or.inl (by omega))] | rw [iv_upd_ne _ _ (Or.inr (by decide))]))
          exact b
        · (repeat (first | rw [iv_upd_ne _ _ (Or.inl (by omega))] | rw [iv_upd_ne _ _ (Or.inr (by decide))]))
          exact c
      · by_cases hi : i = l
        · subst hi
          obtain ⟨a, b, c⟩ := e2 i i0 (by omega)
          refine ⟨?_, ?_, ?_⟩
          · (repeat (first | rw [iv_upd_ne _ _ (Or.inl (by omega))] | rw [iv_upd_ne _ _ (Or.inr (by decide))]))
            rw [iv_upd_same]
            exact a
          · (repeat (first | rw [iv_upd_ne _ _ (Or.inl (by omega))] | rw [iv_upd_ne _ _ (Or.inr (by decide))]))
            rw [iv_upd_same]
            exact b
          · (repeat (first | rw [iv_upd_ne _ _ (Or.inl (by omega))] | rw [iv_upd_ne _ _ (Or.inr (by decide))]))
            rw [iv_upd_same]
            (repeat (first | rw [iv_upd_ne _ _ (Or.inl (by omega))] | rw [iv_upd_ne _ _ (Or.inr (by decide))]))
            exact c
        · obtain ⟨a, b, c⟩ := e3 i i0 (by omega)
          refine ⟨?_, ?_, ?_⟩
          · (repeat (first | rw [iv_upd_ne _ _ (Or.inl (by omega))] | rw [iv_upd_ne _ _ (Or.inr (by decide))]))
            exact a
          · (repeat (first | rw [iv_upd_ne _ _ (Or.inl (by omega))] | rw [iv_upd_ne _ _ (Or.inr (by decide))]))
            exact b
          · (repeat (first | rw [iv_upd_ne _ _ (Or.inl (by omega))] | rw [iv_upd_ne _ _ (Or.inr (by decide))]))
            exact c
    · next h1 h2 =>
      refine h2 ?_
      rw [iv_upd_ne _ _ (Or.inl (by omega)), iv_upd_ne _ _ (Or.inl (by omega)), iv_upd_ne _ _ (Or.inl (by omega)), iv_upd_ne _ _ (Or.inl (by omega)), iv_upd_ne _ _ (Or.inl (by omega)), iv_upd_ne _ _ (Or.inl (by omega)), iv_upd_ne _ _ (Or.inl (by omega)), iv_upd_ne _ _ (Or.inl (by omega)), iv_upd_ne _ _ (Or.inl (by omega))]
      exact nb1 (c := 122) (n := 10) (k := 6) (by decide +kernel) hN h0 (by omega)
theorem tk_r {d : Nat} (hL : L ≤ 3072) (hd : 6 ≤ d) : iv_C L xs vz d 206 [(12, 39), (12, 106)] μ (fun r μ' => r = none ∧ veq (vK μ) (vC μ')) := by
  refine iv_C_of (sgr_206_0 hL hd ?_)
  have c1 : ∀ p k, p ≠ 41 → p ≠ 42 → iv_cpy (iv_cpy μ 108 0 41 0 36) 109 0 42 0 36 p k = μ p k := fun p k a b => by
    unfold iv_cpy
    rw [if_neg (fun (z : p = 42 ∧ _) => b z.1), if_neg (fun (z : p = 41 ∧ _) => a z.1)]
  exact tk_r_13 hL hd (μ0 := μ) (fun μ' a => ⟨rfl, a⟩) 10 0 _ (by decide) (by decide) (by decide) ⟨c1 _ _ (by decide) (by decide), c1 _ _ (by decide) (by decide), c1 _ _ (by decide) (by decide)⟩ (fun i i0 i1 => ⟨c1 _ _ (by omega) (by omega), c1 _ _ (by omega) (by omega), c1 _ _ (by omega) (by omega)⟩) (fun i i0 i1 => by omega)
theorem image_c {d : Nat} (hL : L ≤ 3072) (hd : 20 ≤ d) : iv_C L xs vz d 205 [(13, 38)] μ (fun _ μ' => μ' 38 2 = 1 ∧ veq (vC μ) (vK μ')) := by
  refine iv_C_of (sg_205_0 hL (by omega) ?_)
  refine iv_call (want := 1) (y := 205) (pc := 8) (z := 206) (cls := 10) (sa := [(12, 39)]) (th := [(12, 106)]) (r := []) (d' := d - 1) (show iv_cck 1 205 8 206 = true by decide +kernel) (Or.inl ⟨rfl, _, rfl⟩) (show iv_mck 1 206 1 10 2 = true by decide +kernel) (show (0 : Nat) ≤ 8 by decide) (by omega) (iv_C_mono (tk_i hL (by omega)) (fun v μ1 hp => ?_))
  obtain ⟨rfl, h1, h2, h3, h4⟩ := hp
  have e : ∀ p j : Int, p ≠ 38 → iv_upd μ1 38 2 1 p j = μ1 p j := fun p j h => iv_upd_ne _ _ (Or.inl h)
  refine sg_205_11 hL (by omega) ⟨iv_upd_same _ _ _ _, (e 106 2 (by decide)).trans h1, (e 106 4 (by decide)).trans h2, (e 106 9 (by decide)).trans h3, fun i i0 i1 => ?_⟩
  obtain ⟨a, b, c⟩ := h4 i i0 i1
  exact ⟨(e (i + 122) 0 (by omega)).trans a, (e (i + 122) 2 (by omega)).trans b, (e (i + 122) 6 (by omega)).trans c⟩
theorem restore_c {d : Nat} (hL : L ≤ 3072) (hd : 20 ≤ d) : iv_C L xs vz d 212 [(13, 38)] μ (fun _ μ' => (μ 38 2 = 0 → fL μ μ') ∧ (μ 38 2 ≠ 0 → veq (vK μ) (vC μ'))) := by
  refine iv_C_of (sg_212_0 hL (by omega) ?_ ?_) <;> intro h0
  · refine iv_call (want := 1) (y := 212) (pc := 22) (z := 206) (cls := 10) (sa := [(12, 106)]) (th := [(12, 39)]) (r := []) (d' := d - 1) (show iv_cck 1 212 22 206 = true by decide +kernel) (Or.inl ⟨rfl, _, rfl⟩) (show iv_mck 1 206 1 10 2 = true by decide +kernel) (show (0 : Nat) ≤ 8 by decide) (by omega) (iv_C_mono (tk_r hL (by omega)) (fun v μ1 hp => ?_))
    obtain ⟨rfl, h1⟩ := hp
    exact sg_212_25 hL (by omega) ⟨fun q => absurd q h0, fun _ => h1⟩
  · exact ⟨fun _ => veq_of vC_upd, fun q => absurd h0 q⟩
theorem image_r {d : Nat} (hL : L ≤ 3072) (hd : 6 ≤ d) : iv_C L xs vz d 327 [(14, 195)] μ (fun _ μ' => μ' 195 2 = 1 ∧ ∀ j : Int, 0 ≤ j → j < 2973 → μ' 197 j = μ 196 j) := by
  refine iv_C_of (sg_327_0 hL hd ?_)
  have key : ∀ (n : Nat) (l : Int) (m : iv_M), 0 ≤ l → 2973 ≤ l + n → (∀ j, m 196 j = μ 196 j) → (∀ j : Int, 0 ≤ j → j < l → m 197 j = μ 196 j) → iv_G L xs vz d 327 2 [some (14, 195), some (0, l)] [] m (fun _ μ' => μ' 195 2 = 1 ∧ ∀ j : Int, 0 ≤ j → j < 2973 → μ' 197 j = μ 196 j) := by
    intro n
    induction n with
    | zero =>
      intro l m h0 h1 e1 e2
      refine sg_327_2 hL hd h0 ?_ ?_ <;> intros
      · exact ⟨iv_upd_same _ _ _ _, fun j j0 j1 => by rw [iv_upd_ne _ _ (Or.inl (by decide))]; exact e2 j j0 (by omega)⟩
      · exfalso; omega
    | succ n ih =>
      intro l m h0 h1 e1 e2
      refine sg_327_2 hL hd h0 ?_ ?_ <;> intros
      · exact ⟨iv_upd_same _ _ _ _, fun j j0 j1 => by rw [iv_upd_ne _ _ (Or.inl (by decide))]; exact e2 j j0 (by omega)⟩
      · refine ih _ _ (by omega) (by omega) (fun j => by rw [iv_upd_ne _ _ (Or.inl (by decide))]; exact e1 j) (fun j j0 j1 => ?_)
        by_cases hj : j = l
        · rw [hj, iv_upd_same, e1]
        · rw [iv_upd_ne _ _ (Or.inr hj)]; exact e2 j j0 (by omega)
  exact key 2973 0 μ (by decide) (by decide) (fun _ => rfl) (fun j j0 j1 => by omega)
theorem restore_r {d : Nat} (hL : L ≤ 3072) (hd : 6 ≤ d) : iv_C L xs vz d 328 [(14, 195)] μ (fun _ μ' => (μ 195 2 = 0 → fl μ μ') ∧ (μ 195 2 ≠ 0 → ∀ j : Int, 0 ≤ j → j < 2973 → μ' 196 j = μ 197 j)) := by
  refine iv_C_of (sg_328_0 hL hd ?_ ?_) <;> intro hz
  · have key : ∀ (n : Nat) (l : Int) (m : iv_M), 0 ≤ l → 2973 ≤ l + n → (∀ j, m 197 j = μ 197 j) → (∀ j : Int, 0 ≤ j → j < l → m 196 j = μ 197 j) → iv_G L xs vz d 328 16 [some (14, 195), some (0, l)] [] m (fun _ μ' => (μ 195 2 = 0 → fl μ μ') ∧ (μ 195 2 ≠ 0 → ∀ j : Int, 0 ≤ j → j < 2973 → μ' 196 j = μ 197 j)) := by
      intro n
      induction n with
      | zero =>
        intro l m h0 h1 e1 e2
        refine sg_328_16 hL hd h0 ?_ ?_ <;> intros
        · exact ⟨fun q => absurd q hz, fun _ j j0 j1 => e2 j j0 (by omega)⟩
        · exfalso; omega
      | succ n ih =>
        intro l m h0 h1 e1 e2
        refine sg_328_16 hL hd h0 ?_ ?_ <;> intros
        · exact ⟨fun q => absurd q hz, fun _ j j0 j1 => e2 j j0 (by omega)⟩
        · refine ih _ _ (by omega) (by omega) (fun j => by rw [iv_upd_ne _ _ (Or.inl (by decide))]; exact e1 j) (fun j j0 j1 => ?_)
          by_cases hj : j = l
          · rw [hj, iv_upd_same, e1]
          · rw [iv_upd_ne _ _ (Or.inr hj)]; exact e2 j j0 (by omega)
    exact key 2973 0 μ (by decide) (by decide) (fun _ => rfl) (fun j j0 j1 => by omega)
  · exact ⟨fun _ => veq_of (vR_upd (by decide)), fun q => absurd hz q⟩
theorem veq_k {μ' : iv_M} (h : ∀ j : Int, 0 ≤ j → j < 2973 → μ' 197 j = μ 196 j) : veq (vR μ) (vKR μ') := ⟨h 0 (by omega) (by omega), h 1 (by omega) (by omega), h 3 (by omega) (by omega), fun i i0 i1 => ⟨h (i * 7 + 80) (by omega) (by omega), h (i * 7 + 82) (by omega) (by omega), h (i * 7 + 86) (by omega) (by omega)⟩⟩
theorem veq_b {μ' : iv_M} (h : ∀ j : Int, 0 ≤ j → j < 2973 → μ' 196 j = μ 197 j) : veq (vKR μ) (vR μ') := ⟨h 0 (by omega) (by omega), h 1 (by omega) (by omega), h 3 (by omega) (by omega), fun i i0 i1 => ⟨h (i * 7 + 80) (by omega) (by omega), h (i * 7 + 82) (by omega) (by omega), h (i * 7 + 86) (by omega) (by omega)⟩⟩
end R8S
