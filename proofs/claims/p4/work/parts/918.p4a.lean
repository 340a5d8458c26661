/-! ===== printed by wip/iv/gen_p4.py: kinds of floats on both sides ===== -/
def fA (μ μ' : iv_M) : Prop := μ' 39 2 = μ 39 2 ∧ (∀ i : Int, 0 ≤ i → i < 10 → μ' (i + 55) 0 = μ (i + 55) 0)
def fr_l (f : Nat → rl_S) (W : se_W) : Bool := (List.range 10).all (fun i => rl_off W (f i))
theorem fr_ok {W : se_W} {f : Nat → rl_S} {μ μ' : iv_M} (h : fr_l f W = true) (hf : ∀ p k, ¬ br_in W p k → μ' p k = μ p k) (i : Nat) (hi : i < 10) : μ' (f i).1 (f i).2 = μ (f i).1 (f i).2 := hf _ _ (rl_off_ok (List.all_eq_true.mp h i (List.mem_range.mpr hi)))
def fAW (W : se_W) : Bool := rl_off W (39, 2) && fr_l (fun i => (i + 55, 0)) W
theorem fA_of {W : se_W} {μ μ' : iv_M} (h : fAW W = true) (hf : ∀ p k, ¬ br_in W p k → μ' p k = μ p k) : fA μ μ' := by
  unfold fAW at h
  rw [Bool.and_eq_true] at h
  exact ⟨hf 39 2 (rl_off_ok (s := (39, 2)) h.1), (fun i i0 i1 => by
    obtain ⟨j, rfl⟩ := Int.eq_ofNat_of_zero_le i0
    have := fr_ok h.2 hf j (by omega)
    dsimp only at this
    rw [show ((j + 55 : Nat) : Int) = (j : Int) + 55 by omega] at this
    exact this)⟩
theorem fA_tr {a b c : iv_M} (h1 : fA a b) (h2 : fA b c) : fA a c := ⟨h2.1.trans h1.1, fun i i0 i1 => (h2.2 i i0 i1).trans (h1.2 i i0 i1)⟩
def fB (μ μ' : iv_M) : Prop := μ' 106 2 = μ 106 2 ∧ (∀ i : Int, 0 ≤ i → i < 10 → μ' (i + 122) 0 = μ (i + 122) 0)
def fBW (W : se_W) : Bool := rl_off W (106, 2) && fr_l (fun i => (i + 122, 0)) W
theorem fB_of {W : se_W} {μ μ' : iv_M} (h : fBW W = true) (hf : ∀ p k, ¬ br_in W p k → μ' p k = μ p k) : fB μ μ' := by
  unfold fBW at h
  rw [Bool.and_eq_true] at h
  exact ⟨hf 106 2 (rl_off_ok (s := (106, 2)) h.1), (fun i i0 i1 => by
    obtain ⟨j, rfl⟩ := Int.eq_ofNat_of_zero_le i0
    have := fr_ok h.2 hf j (by omega)
    dsimp only at this
    rw [show ((j + 122 : Nat) : Int) = (j : Int) + 122 by omega] at this
    exact this)⟩
theorem fB_tr {a b c : iv_M} (h1 : fB a b) (h2 : fB b c) : fB a c := ⟨h2.1.trans h1.1, fun i i0 i1 => (h2.2 i i0 i1).trans (h1.2 i i0 i1)⟩
def fC (μ μ' : iv_M) : Prop := μ' 38 2 = μ 38 2
def fCW (W : se_W) : Bool := rl_off W (38, 2)
theorem fC_of {W : se_W} {μ μ' : iv_M} (h : fCW W = true) (hf : ∀ p k, ¬ br_in W p k → μ' p k = μ p k) : fC μ μ' := by
  unfold fCW at h
  exact hf 38 2 (rl_off_ok (s := (38, 2)) h)
theorem fC_tr {a b c : iv_M} (h1 : fC a b) (h2 : fC b c) : fC a c := Eq.trans h2 h1
def fD (μ μ' : iv_M) : Prop := μ' 196 0 = μ 196 0
def fDW (W : se_W) : Bool := rl_off W (196, 0)
theorem fD_of {W : se_W} {μ μ' : iv_M} (h : fDW W = true) (hf : ∀ p k, ¬ br_in W p k → μ' p k = μ p k) : fD μ μ' := by
  unfold fDW at h
  exact hf 196 0 (rl_off_ok (s := (196, 0)) h)
theorem fD_tr {a b c : iv_M} (h1 : fD a b) (h2 : fD b c) : fD a c := Eq.trans h2 h1
def fE (μ μ' : iv_M) : Prop := (∀ i : Int, 0 ≤ i → i < 10 → μ' 196 (i * 7 + 80) = μ 196 (i * 7 + 80))
def fEW (W : se_W) : Bool := fr_l (fun i => (196, i * 7 + 80)) W
theorem fE_of {W : se_W} {μ μ' : iv_M} (h : fEW W = true) (hf : ∀ p k, ¬ br_in W p k → μ' p k = μ p k) : fE μ μ' := by
  unfold fEW at h
  exact (fun i i0 i1 => by
    obtain ⟨j, rfl⟩ := Int.eq_ofNat_of_zero_le i0
    have := fr_ok h hf j (by omega)
    dsimp only at this
    rw [show ((j * 7 + 80 : Nat) : Int) = (j : Int) * 7 + 80 by omega] at this
    exact this)
theorem fE_tr {a b c : iv_M} (h1 : fE a b) (h2 : fE b c) : fE a c := fun i i0 i1 => (h2 i i0 i1).trans (h1 i i0 i1)
def fF (μ μ' : iv_M) : Prop := μ' 197 0 = μ 197 0 ∧ (∀ i : Int, 0 ≤ i → i < 10 → μ' 197 (i * 7 + 80) = μ 197 (i * 7 + 80))
def fFW (W : se_W) : Bool := rl_off W (197, 0) && fr_l (fun i => (197, i * 7 + 80)) W
theorem fF_of {W : se_W} {μ μ' : iv_M} (h : fFW W = true) (hf : ∀ p k, ¬ br_in W p k → μ' p k = μ p k) : fF μ μ' := by
  unfold fFW at h
  rw [Bool.and_eq_true] at h
  exact ⟨hf 197 0 (rl_off_ok (s := (197, 0)) h.1), (fun i i0 i1 => by
    obtain ⟨j, rfl⟩ := Int.eq_ofNat_of_zero_le i0
    have := fr_ok h.2 hf j (by omega)
    dsimp only at this
    rw [show ((j * 7 + 80 : Nat) : Int) = (j : Int) * 7 + 80 by omega] at this
    exact this)⟩
theorem fF_tr {a b c : iv_M} (h1 : fF a b) (h2 : fF b c) : fF a c := ⟨h2.1.trans h1.1, fun i i0 i1 => (h2.2 i i0 i1).trans (h1.2 i i0 i1)⟩
def fG (μ μ' : iv_M) : Prop := μ' 195 2 = μ 195 2
def fGW (W : se_W) : Bool := rl_off W (195, 2)
theorem fG_of {W : se_W} {μ μ' : iv_M} (h : fGW W = true) (hf : ∀ p k, ¬ br_in W p k → μ' p k = μ p k) : fG μ μ' := by
  unfold fGW at h
  exact hf 195 2 (rl_off_ok (s := (195, 2)) h)
theorem fG_tr {a b c : iv_M} (h1 : fG a b) (h2 : fG b c) : fG a c := Eq.trans h2 h1
def p4_J (L : Nat) (xs : Nat → Int32) (μ : iv_M) : Prop := br_J L xs μ ∧ μ 39 2 = μ 196 0 ∧ μ 106 2 = μ 197 0 ∧ μ 38 2 = μ 195 2 ∧ (∀ i : Int, 0 ≤ i → i < 10 → μ (i + 55) 0 = μ 196 (i * 7 + 80) ∧ 0 ≤ μ (i + 55) 0 ∧ μ (i + 55) 0 ≤ 5) ∧ ∀ i : Int, 0 ≤ i → i < 10 → μ (i + 122) 0 = μ 197 (i * 7 + 80) ∧ 0 ≤ μ (i + 122) 0 ∧ μ (i + 122) 0 ≤ 5
theorem p4_keep {L : Nat} {xs : Nat → Int32} {μ μ' : iv_M} (h : p4_J L xs μ) (hJ : br_J L xs μ') (hA : fA μ μ') (hB : fB μ μ') (hC : fC μ μ') (hD : fD μ μ') (hE : fE μ μ') (hF : fF μ μ') (hG : fG μ μ') : p4_J L xs μ' := by
  obtain ⟨-, a1, a2, a3, a4, a5⟩ := h
  refine ⟨hJ, by rw [hA.1, (show μ' 196 0 = μ 196 0 from hD), a1], by rw [hB.1, hF.1, a2], by rw [(show μ' 38 2 = μ 38 2 from hC), (show μ' 195 2 = μ 195 2 from hG), a3], fun i i0 i1 => ?_, fun i i0 i1 => ?_⟩
  · rw [hA.2 i i0 i1, hE i i0 i1]
    exact a4 i i0 i1
  · rw [hB.2 i i0 i1, hF.2 i i0 i1]
    exact a5 i i0 i1
theorem fE_k {μ μ' : iv_M} (h : kq K1 μ μ') : fE μ μ' := fun i i0 i1 => h (i * 7 + 80) (by omega)
section P4B
variable {L : Nat} {xs : Nat → Int32} {vz : Value} {μ m1 m2 : iv_M}
theorem sl_i {c k : Nat} (hs : (List.range 10).all (fun i => iv_slot (i + c) k) = true) (h : iv_m L xs m1 = iv_m L xs m2) (hN1 : iv_N m1) (hN2 : iv_N m2) {i : Int} (i0 : 0 ≤ i) (i1 : i < 10) : m1 (i + c) k = m2 (i + c) k := by
  obtain ⟨j, rfl⟩ := Int.eq_ofNat_of_zero_le i0
  have := iv_m_slot h hN1 hN2 (List.all_eq_true.mp hs j (List.mem_range.mpr (by omega)))
  rw [show ((j + c : Nat) : Int) = (j : Int) + (c : Int) by omega] at this
  exact this
theorem sl_n {p : Nat} (hs : (List.range 10).all (fun i => iv_slot p (i * 7 + 80)) = true) (h : iv_m L xs m1 = iv_m L xs m2) (hN1 : iv_N m1) (hN2 : iv_N m2) {i : Int} (i0 : 0 ≤ i) (i1 : i < 10) : m1 p (i * 7 + 80) = m2 p (i * 7 + 80) := by
  obtain ⟨j, rfl⟩ := Int.eq_ofNat_of_zero_le i0
  have := iv_m_slot h hN1 hN2 (List.all_eq_true.mp hs j (List.mem_range.mpr (by omega)))
  rw [show ((j * 7 + 80 : Nat) : Int) = (j : Int) * 7 + 80 by omega] at this
  exact this
theorem fA_m (h : iv_m L xs m1 = iv_m L xs m2) (hN1 : iv_N m1) (hN2 : iv_N m2) : fA m2 m1 := ⟨iv_m_slot (p := 39) (k := 2) h hN1 hN2 (by decide +kernel), fun _ i0 i1 => sl_i (c := 55) (k := 0) (by decide +kernel) h hN1 hN2 i0 i1⟩
theorem fB_m (h : iv_m L xs m1 = iv_m L xs m2) (hN1 : iv_N m1) (hN2 : iv_N m2) : fB m2 m1 := ⟨iv_m_slot (p := 106) (k := 2) h hN1 hN2 (by decide +kernel), fun _ i0 i1 => sl_i (c := 122) (k := 0) (by decide +kernel) h hN1 hN2 i0 i1⟩
theorem fC_m (h : iv_m L xs m1 = iv_m L xs m2) (hN1 : iv_N m1) (hN2 : iv_N m2) : fC m2 m1 := iv_m_slot (p := 38) (k := 2) h hN1 hN2 (by decide +kernel)
theorem fD_m (h : iv_m L xs m1 = iv_m L xs m2) (hN1 : iv_N m1) (hN2 : iv_N m2) : fD m2 m1 := iv_m_slot (p := 196) (k := 0) h hN1 hN2 (by decide +kernel)
theorem fE_m (h : iv_m L xs m1 = iv_m L xs m2) (hN1 : iv_N m1) (hN2 : iv_N m2) : fE m2 m1 := fun _ i0 i1 => sl_n (p := 196) (by decide +kernel) h hN1 hN2 i0 i1
theorem fF_m (h : iv_m L xs m1 = iv_m L xs m2) (hN1 : iv_N m1) (hN2 : iv_N m2) : fF m2 m1 := ⟨iv_m_slot (p := 197) (k := 0) h hN1 hN2 (by decide +kernel), fun _ i0 i1 => sl_n (p := 197) (by decide +kernel) h hN1 hN2 i0 i1⟩
theorem fG_m (h : iv_m L xs m1 = iv_m L xs m2) (hN1 : iv_N m1) (hN2 : iv_N m2) : fG m2 m1 := iv_m_slot (p := 195) (k := 2) h hN1 hN2 (by decide +kernel)
theorem iv_cz_int {r r' : Option iv_Z} {z : Int} (a : r.map iv_cz = r'.map iv_cz) (h : r' = some (0, z)) : ∃ w, r = some (0, w) := by
  subst h
  cases r with
  | none => cases a
  | some u =>
    obtain ⟨k, w⟩ := u
    have e : iv_cv k w = .int (Int32.ofInt z) := Option.some.inj a
    match k, e with
    | 0, _ => exact ⟨w, rfl⟩
    | 1, e => cases e
    | k + 2, e => cases e
/-- a contract by values and one by types of one call -/
theorem br_and {d z : Nat} {As : List iv_Z} {P1 : iv_P} {c : se_C} (h1 : iv_C L xs vz d z As μ P1) (h2 : iv_C L xs vz d z As μ (br_P L xs c μ)) (hr : ∀ r, br_rv c r → ∃ w, r = some (0, w)) : iv_C L xs vz d z As μ (fun r μ' => P1 r μ' ∧ br_J L xs μ' ∧ (fAW c.2.2.2 = true → fA μ μ') ∧ (fBW c.2.2.2 = true → fB μ μ') ∧ (fCW c.2.2.2 = true → fC μ μ') ∧ (fDW c.2.2.2 = true → fD μ μ') ∧ (fEW c.2.2.2 = true → fE μ μ') ∧ (fFW c.2.2.2 = true → fF μ μ') ∧ (fGW c.2.2.2 = true → fG μ μ') ∧ ∃ w, r = some (0, w)) :=
  iv_C_and h1 h2 (fun r μ' => br_J L xs μ' ∧ (fAW c.2.2.2 = true → fA μ μ') ∧ (fBW c.2.2.2 = true → fB μ μ') ∧ (fCW c.2.2.2 = true → fC μ μ') ∧ (fDW c.2.2.2 = true → fD μ μ') ∧ (fEW c.2.2.2 = true → fE μ μ') ∧ (fFW c.2.2.2 = true → fF μ μ') ∧ (fGW c.2.2.2 = true → fG μ μ') ∧ ∃ w, r = some (0, w)) (fun r m1 r' m2 a1 a2 n1 n2 a3 => by
    obtain ⟨q1, q2, q3⟩ := a3
    obtain ⟨w, hw⟩ := hr r' q3
    exact ⟨by unfold br_J at q1 ⊢; rw [a2]; exact q1, fun c1 => fA_tr (fA_of c1 q2) (fA_m a2 n1 n2), fun c1 => fB_tr (fB_of c1 q2) (fB_m a2 n1 n2), fun c1 => fC_tr (fC_of c1 q2) (fC_m a2 n1 n2), fun c1 => fD_tr (fD_of c1 q2) (fD_m a2 n1 n2), fun c1 => fE_tr (fE_of c1 q2) (fE_m a2 n1 n2), fun c1 => fF_tr (fF_of c1 q2) (fF_m a2 n1 n2), fun c1 => fG_tr (fG_of c1 q2) (fG_m a2 n1 n2), iv_cz_int a1 hw⟩)
/-- the answer of as: n floats, k the float's kind -/
def asf (n k a b : Int) : Int := if a < 0 ∨ n ≤ a ∨ b < 0 ∨ 5 < b then -100001 else if b = 0 ∨ k = b ∨ (b = 1 ∧ k ≠ 0 ∧ k ≠ 4) then a else -100004
theorem as_r {d : Nat} (hL : L ≤ 3072) (hd : 6 ≤ d) (hJ : br_J L xs μ) {a b : Int} : iv_C L xs vz d 224 [(14, 195), (0, a), (0, b)] μ (fun r _ => r = some (0, asf (μ 196 0) (μ 196 (a * 7 + 80)) a b)) := by
  refine iv_C_N (fun hN _ => iv_C_of ?_)
  have hc := kn0 hJ hN
  refine sg_224_0 hL hd hc.1 hc.2 ?_ ?_ ?_ ?_ ?_ ?_ ?_ ?_ ?_ ?_ <;> intros <;> (refine congrArg (fun z => some ((0 : Nat), z)) ?_; unfold asf; split <;> first | rfl | omega | (split <;> first | rfl | omega))
theorem iso_sr : iv_ln L xs 1 = 6 ∧ iv_sr L xs 1 0 = -1 ∧ iv_sr L xs 1 1 = 0 ∧ iv_sr L xs 1 2 = 1 ∧ iv_sr L xs 1 3 = 1 ∧ iv_sr L xs 1 4 = 0 ∧ iv_sr L xs 1 5 = 1 := ⟨rfl, rfl, rfl, rfl, rfl, rfl, rfl⟩
theorem iso_0 {d : Nat} (hL : L ≤ 3072) (hd : 6 ≤ d) {P : iv_P} {p b : Int} {l : Int} (h0 : 0 ≤ l) (h1 : l ≤ 4) (hP : P (some (0, if b = 0 then 1 else 0)) μ) : iv_G L xs vz d 24 7 [some (6, p), some (0, b), some (0, 0), some (0, l)] [] μ P := by
  obtain ⟨e, s0, s1, s2, s3, s4, s5⟩ := iso_sr (L := L) (xs := xs)
  refine sg_24_7 hL hd h0 ?_ ?_ ?_ ?_ ?_ ?_
  · intros; omega
  · intros; omega
  · intros; omega
  · intros
    rw [s0]
    refine sg_24_7 hL hd (by omega) ?_ ?_ ?_ ?_ ?_ ?_
    · intros; omega
    · intros
      rw [if_neg (by omega)] at hP
      exact hP
    · intros; omega
    · intros; omega
    · intros; omega
    · intros; omega
  · intros; omega
  · intro _ _ _ he
    rw [if_pos (by omega)] at hP
    exact hP
theorem iso_1 {d : Nat} (hL : L ≤ 3072) (hd : 6 ≤ d) {P : iv_P} {p b : Int} {l : Int} (h0 : 0 ≤ l) (h1 : l ≤ 3) (hP : P (some (0, if b = 1 ∨ b = 0 then 1 else 0)) μ) : iv_G L xs vz d 24 7 [some (6, p), some (0, b), some (0, 1), some (0, l)] [] μ P := by
  obtain ⟨e, s0, s1, s2, s3, s4, s5⟩ := iso_sr (L := L) (xs := xs)
  refine sg_24_7 hL hd h0 ?_ ?_ ?_ ?_ ?_ ?_
  · intros; omega
  · intros; omega
  · intros; omega
  · intro _ _ _ hne _
    rw [s1]
    refine iso_0 hL hd (by omega) (by omega) ?_
    have q : (if b = 1 ∨ b = 0 then (1 : Int) else 0) = if b = 0 then 1 else 0 := by split <;> split <;> first | rfl | omega
    rw [q] at hP
    exact hP
  · intros; omega
  · intro _ _ _ he
    rw [if_pos (by omega)] at hP
    exact hP
theorem iso_4 {d : Nat} (hL : L ≤ 3072) (hd : 6 ≤ d) {P : iv_P} {p b : Int} {l : Int} (h0 : 0 ≤ l) (h1 : l ≤ 3) (hP : P (some (0, if b = 4 ∨ b = 0 then 1 else 0)) μ) : iv_G L xs vz d 24 7 [some (6, p), some (0, b), some (0, 4), some (0, l)] [] μ P := by
  obtain ⟨e, s0, s1, s2, s3, s4, s5⟩ := iso_sr (L := L) (xs := xs)
  refine sg_24_7 hL hd h0 ?_ ?_ ?_ ?_ ?_ ?_
  · intros; omega
  · intros; omega
  · intros; omega
  · intro _ _ _ hne _
    rw [s4]
    refine iso_0 hL hd (by omega) (by omega) ?_
    have q : (if b = 4 ∨ b = 0 then (1 : Int) else 0) = if b = 0 then 1 else 0 := by split <;> split <;> first | rfl | omega
    rw [q] at hP
    exact hP
  · intros; omega
  · intro _ _ _ he
    rw [if_pos (by omega)] at hP
    exact hP
theorem iso_2 {d : Nat} (hL : L ≤ 3072) (hd : 6 ≤ d) {P : iv_P} {p b : Int} {l : Int} (h0 : 0 ≤ l) (h1 : l ≤ 2) (hP : P (some (0, if b = 2 ∨ b = 1 ∨ b = 0 then 1 else 0)) μ) : iv_G L xs vz d 24 7 [some (6, p), some (0, b), some (0, 2), some (0, l)] [] μ P := by
  obtain ⟨e, s0, s1, s2, s3, s4, s5⟩ := iso_sr (L := L) (xs := xs)
  refine sg_24_7 hL hd h0 ?_ ?_ ?_ ?_ ?_ ?_
  · intros; omega
  · intros; omega
  · intros; omega
  · intro _ _ _ hne _
    rw [s2]
    refine iso_1 hL hd (by omega) (by omega) ?_
    have q : (if b = 2 ∨ b = 1 ∨ b = 0 then (1 : Int) else 0) = if b = 1 ∨ b = 0 then 1 else 0 := by split <;> split <;> first | rfl | omega
    rw [q] at hP
    exact hP
  · intros; omega
  · intro _ _ _ he
    rw [if_pos (by omega)] at hP
    exact hP
theorem iso_3 {d : Nat} (hL : L ≤ 3072) (hd : 6 ≤ d) {P : iv_P} {p b : Int} {l : Int} (h0 : 0 ≤ l) (h1 : l ≤ 2) (hP : P (some (0, if b = 3 ∨ b = 1 ∨ b = 0 then 1 else 0)) μ) : iv_G L xs vz d 24 7 [some (6, p), some (0, b), some (0, 3), some (0, l)] [] μ P := by
  obtain ⟨e, s0, s1, s2, s3, s4, s5⟩ := iso_sr (L := L) (xs := xs)
  refine sg_24_7 hL hd h0 ?_ ?_ ?_ ?_ ?_ ?_
  · intros; omega
  · intros; omega
  · intros; omega
  · intro _ _ _ hne _
    rw [s3]
    refine iso_1 hL hd (by omega) (by omega) ?_
    have q : (if b = 3 ∨ b = 1 ∨ b = 0 then (1 : Int) else 0) = if b = 1 ∨ b = 0 then 1 else 0 := by split <;> split <;> first | rfl | omega
    rw [q] at hP
    exact hP
  · intros; omega
  · intro _ _ _ he
    rw [if_pos (by omega)] at hP
    exact hP
theorem iso_5 {d : Nat} (hL : L ≤ 3072) (hd : 6 ≤ d) {P : iv_P} {p b : Int} {l : Int} (h0 : 0 ≤ l) (h1 : l ≤ 2) (hP : P (some (0, if b = 5 ∨ b = 1 ∨ b = 0 then 1 else 0)) μ) : iv_G L xs vz d 24 7 [some (6, p), some (0, b), some (0, 5), some (0, l)] [] μ P := by
  obtain ⟨e, s0, s1, s2, s3, s4, s5⟩ := iso_sr (L := L) (xs := xs)
  refine sg_24_7 hL hd h0 ?_ ?_ ?_ ?_ ?_ ?_
  · intros; omega
  · intros; omega
  · intros; omega
  · intro _ _ _ hne _
    rw [s5]
    refine iso_1 hL hd (by omega) (by omega) ?_
    have q : (if b = 5 ∨ b = 1 ∨ b = 0 then (1 : Int) else 0) = if b = 1 ∨ b = 0 then 1 else 0 := by split <;> split <;> first | rfl | omega
    rw [q] at hP
    exact hP
  · intros; omega
  · intro _ _ _ he
    rw [if_pos (by omega)] at hP
    exact hP
theorem iso_c {d : Nat} (hL : L ≤ 3072) (hd : 6 ≤ d) {p b : Int} (hk : 0 ≤ μ p 0 ∧ μ p 0 ≤ 5) (hb : 0 ≤ b ∧ b ≤ 5) : iv_C L xs vz d 24 [(6, p), (0, b)] μ (fun r μ' => r = some (0, if b = 0 ∨ μ p 0 = b ∨ (b = 1 ∧ μ p 0 ≠ 0 ∧ μ p 0 ≠ 4) then 1 else 0) ∧ μ' = μ) := by
  refine iv_C_of (sg_24_0 hL hd ?_)
  have key : ∀ k : Int, μ p 0 = k → 0 ≤ k → k ≤ 5 → iv_G L xs vz d 24 7 [some (6, p), some (0, b), some (0, k), some (0, 0)] [] μ (fun r μ' => r = some (0, if b = 0 ∨ μ p 0 = b ∨ (b = 1 ∧ μ p 0 ≠ 0 ∧ μ p 0 ≠ 4) then 1 else 0) ∧ μ' = μ) := by
    intro k hk h0 h5
    rw [hk]
    rcases (show k = 0 ∨ k = 1 ∨ k = 2 ∨ k = 3 ∨ k = 4 ∨ k = 5 by omega) with rfl | rfl | rfl | rfl | rfl | rfl
    · exact iso_0 hL hd (by decide) (by decide) ⟨by refine congrArg (fun z => some ((0 : Nat), z)) ?_; split <;> split <;> first | rfl | omega, rfl⟩
    · exact iso_1 hL hd (by decide) (by decide) ⟨by refine congrArg (fun z => some ((0 : Nat), z)) ?_; split <;> split <;> first | rfl | omega, rfl⟩
    · exact iso_2 hL hd (by decide) (by decide) ⟨by refine congrArg (fun z => some ((0 : Nat), z)) ?_; split <;> split <;> first | rfl | omega, rfl⟩
    · exact iso_3 hL hd (by decide) (by decide) ⟨by refine congrArg (fun z => some ((0 : Nat), z)) ?_; split <;> split <;> first | rfl | omega, rfl⟩
    · exact iso_4 hL hd (by decide) (by decide) ⟨by refine congrArg (fun z => some ((0 : Nat), z)) ?_; split <;> split <;> first | rfl | omega, rfl⟩
    · exact iso_5 hL hd (by decide) (by decide) ⟨by refine congrArg (fun z => some ((0 : Nat), z)) ?_; split <;> split <;> first | rfl | omega, rfl⟩
  exact key _ rfl hk.1 hk.2
theorem as_c {d : Nat} (hL : L ≤ 3072) (hd : 20 ≤ d) (hc : 0 ≤ μ 39 2 ∧ μ 39 2 ≤ 10) (hk : ∀ i : Int, 0 ≤ i → i < 10 → 0 ≤ μ (i + 55) 0 ∧ μ (i + 55) 0 ≤ 5) {a b : Int} : iv_C L xs vz d 22 [(13, 38), (0, a), (0, b)] μ (fun r _ => r = some (0, asf (μ 39 2) (μ (a + 55) 0) a b)) := by
  refine iv_C_of ?_
  refine sg_22_0 hL (by omega) hc.1 hc.2 ?_ ?_ ?_ ?_ ?_ <;> intros
  · refine congrArg (fun z => some ((0 : Nat), z)) ?_; unfold asf; rw [if_pos (by omega)]
  · refine congrArg (fun z => some ((0 : Nat), z)) ?_; unfold asf; rw [if_pos (by omega)]
  · refine congrArg (fun z => some ((0 : Nat), z)) ?_; unfold asf; rw [if_pos (by omega)]
  · refine congrArg (fun z => some ((0 : Nat), z)) ?_; unfold asf; rw [if_pos (by omega)]
  · have hka := hk a (by omega) (by omega)
    refine iv_call (want := 1) (y := 22) (pc := 34) (z := 24) (cls := 4) (sa := [(0, b)]) (th := [(6, a + 55)]) (r := []) (d' := d - 1) (show iv_cck 1 22 34 24 = true by decide +kernel) (Or.inl ⟨rfl, _, rfl⟩) (show iv_mck 1 24 1 4 2 = true by decide +kernel) (show (0 : Nat) ≤ 8 by decide) (by omega) (iv_C_mono (iso_c hL (by omega) hka ⟨by omega, by omega⟩) (fun v μ1 hp => ?_))
    obtain ⟨rfl, rfl⟩ := hp
    refine sg_22_37 hL (by omega) ?_ ?_ <;> intro hq
    · refine congrArg (fun z => some ((0 : Nat), z)) ?_
      unfold asf
      rw [if_neg (by omega), if_neg]
      intro q
      rw [if_pos q] at hq
      omega
    · refine congrArg (fun z => some ((0 : Nat), z)) ?_
      unfold asf
      rw [if_neg (by omega), if_pos]
      refine Decidable.byContradiction (fun q => ?_)
      rw [if_neg q] at hq
      omega
def rok (n a b c e : Int) : Prop := 0 ≤ a ∧ a ≤ 5 ∧ 0 ≤ b ∧ b ≤ 35 ∧ 1 ≤ c ∧ c ≤ 99 ∧ 0 ≤ e ∧ e ≤ 99 ∧ n < 10
theorem raft_c {d : Nat} (hL : L ≤ 3072) (hd : 6 ≤ d) (hc : 0 ≤ μ 39 2 ∧ μ 39 2 ≤ 10) {a b c e : Int} : iv_C L xs vz d 17 [(13, 38), (0, a), (0, b), (0, c), (0, e)] μ (fun _ μ' => (rok (μ 39 2) a b c e → μ' 39 2 = μ 39 2 + 1 ∧ ∀ i : Int, 0 ≤ i → i < 10 → μ' (i + 55) 0 = if i = μ 39 2 then a else μ (i + 55) 0) ∧ (¬ rok (μ 39 2) a b c e → μ' 39 2 = μ 39 2 ∧ ∀ i : Int, 0 ≤ i → i < 10 → μ' (i + 55) 0 = μ (i + 55) 0)) := by
  refine iv_C_of ?_
  have no : ∀ v, ¬ rok (μ 39 2) a b c e → (rok (μ 39 2) a b c e → iv_upd μ 38 7 v 39 2 = μ 39 2 + 1 ∧ ∀ i : Int, 0 ≤ i → i < 10 → iv_upd μ 38 7 v (i + 55) 0 = if i = μ 39 2 then a else μ (i + 55) 0) ∧ (¬ rok (μ 39 2) a b c e → iv_upd μ 38 7 v 39 2 = μ 39 2 ∧ ∀ i : Int, 0 ≤ i → i < 10 → iv_upd μ 38 7 v (i + 55) 0 = μ (i + 55) 0) := fun v h => ⟨fun q => absurd q h, fun _ => ⟨iv_upd_ne μ v (Or.inl (by decide)), fun i i0 i1 => iv_upd_ne μ v (Or.inl (by omega))⟩⟩
  refine sg_17_0 hL hd hc.1 hc.2 ?_ ?_ ?_ ?_ ?_ ?_ ?_ ?_ ?_ ?_ <;> intros <;> first | exact no _ (fun q => by unfold rok at q; omega) | skip
  have ok : rok (μ 39 2) a b c e := ⟨by omega, by omega, by omega, by omega, by omega, by omega, by omega, by omega, by omega⟩
  refine ⟨fun _ => ⟨?_, fun i i0 i1 => ?_⟩, fun q => absurd ok q⟩
  · rw [iv_upd_same, iv_upd_ne _ _ (Or.inl (by omega)), iv_upd_ne _ _ (Or.inl (by omega)), iv_upd_ne _ _ (Or.inl (by omega)), iv_upd_ne _ _ (Or.inl (by omega)), iv_upd_ne _ _ (Or.inl (by omega)), iv_upd_ne _ _ (Or.inl (by omega)), iv_upd_ne _ _ (Or.inl (by omega)), iv_w_id (by omega) (by omega)]
  · rw [iv_upd_ne _ _ (Or.inl (by omega)), iv_upd_ne _ _ (Or.inr (by decide)), iv_upd_ne _ _ (Or.inr (by decide)), iv_upd_ne _ _ (Or.inr (by decide)), iv_upd_ne _ _ (Or.inr (by decide)), iv_upd_ne _ _ (Or.inr (by decide)), iv_upd_ne _ _ (Or.inr (by decide))]
    by_cases hi : i = μ 39 2
    · rw [if_pos hi, hi, iv_upd_same]
    · rw [if_neg hi, iv_upd_ne _ _ (Or.inl (by omega))]
theorem raft_r {d : Nat} (hL : L ≤ 3072) (hd : 6 ≤ d) (hJ : br_J L xs μ) {a b c e : Int} : iv_C L xs vz d 222 [(14, 195), (0, a), (0, b), (0, c), (0, e)] μ (fun _ μ' => (rok (μ 196 0) a b c e → μ' 196 0 = μ 196 0 + 1 ∧ ∀ i : Int, 0 ≤ i → i < 10 → μ' 196 (i * 7 + 80) = if i = μ 196 0 then a else μ 196 (i * 7 + 80)) ∧ (¬ rok (μ 196 0) a b c e → μ' 196 0 = μ 196 0 ∧ ∀ i : Int, 0 ≤ i → i < 10 → μ' 196 (i * 7 + 80) = μ 196 (i * 7 + 80))) := by
  refine iv_C_N (fun hN _ => iv_C_of ?_)
  have hc := kn0 hJ hN
  have no : ∀ v, ¬ rok (μ 196 0) a b c e → (rok (μ 196 0) a b c e → iv_upd μ 195 3 v 196 0 = μ 196 0 + 1 ∧ ∀ i : Int, 0 ≤ i → i < 10 → iv_upd μ 195 3 v 196 (i * 7 + 80) = if i = μ 196 0 then a else μ 196 (i * 7 + 80)) ∧ (¬ rok (μ 196 0) a b c e → iv_upd μ 195 3 v 196 0 = μ 196 0 ∧ ∀ i : Int, 0 ≤ i → i < 10 → iv_upd μ 195 3 v 196 (i * 7 + 80) = μ 196 (i * 7 + 80)) := fun v h => ⟨fun q => absurd q h, fun _ => ⟨iv_upd_ne μ v (Or.inl (by decide)), fun i i0 i1 => iv_upd_ne μ v (Or.inl (by decide))⟩⟩
  refine sg_222_0 hL hd hc.1 hc.2 ?_ ?_ ?_ ?_ ?_ ?_ ?_ ?_ ?_ ?_ <;> intros <;> first | exact no _ (fun q => by unfold rok at q; omega) | skip
  have ok : rok (μ 196 0) a b c e := ⟨by omega, by omega, by omega, by omega, by omega, by omega, by omega, by omega, by omega⟩
  refine ⟨fun _ => ⟨?_, fun i i0 i1 => ?_⟩, fun q => absurd ok q⟩
  · rw [iv_upd_ne _ _ (Or.inr (by omega)), iv_upd_ne _ _ (Or.inr (by omega)), iv_upd_ne _ _ (Or.inr (by omega)), iv_upd_ne _ _ (Or.inr (by omega)), iv_upd_ne _ _ (Or.inr (by omega)), iv_upd_ne _ _ (Or.inr (by omega)), iv_upd_ne _ _ (Or.inr (by omega)), iv_upd_same]
  · rw [iv_upd_ne _ _ (Or.inr (by omega)), iv_upd_ne _ _ (Or.inr (by omega)), iv_upd_ne _ _ (Or.inr (by omega)), iv_upd_ne _ _ (Or.inr (by omega)), iv_upd_ne _ _ (Or.inr (by omega)), iv_upd_ne _ _ (Or.inr (by omega))]
    by_cases hi : i = μ 196 0
    · rw [if_pos hi, hi, iv_upd_same]
    · rw [if_neg hi, iv_upd_ne _ _ (Or.inr (by omega)), iv_upd_ne _ _ (Or.inr (by omega))]
def ks (K : Int → Int → Prop) (μ μ' : iv_M) : Prop := ∀ p k, K p k → μ' p k = μ p k
theorem ks_rfl {K : Int → Int → Prop} (μ : iv_M) : ks K μ μ := fun _ _ _ => rfl
theorem ks_up {K : Int → Int → Prop} {a b : iv_M} {p k v : Int} (h : ks K a b) (s : ¬ K p k) : ks K a (iv_upd b p k v) := fun q j hq => by
  rw [iv_upd_ne b v (show q ≠ p ∨ j ≠ k from Decidable.byContradiction (fun c => s (by
    have : q = p ∧ j = k := by omega
    rw [← this.1, ← this.2]
    exact hq)))]
  exact h q j hq
theorem ks_cp {K : Int → Int → Prop} {a b : iv_M} {s sp e dp n : Int} (h : ks K a b) (c : ∀ k, ¬ K e k) : ks K a (iv_cpy b s sp e dp n) := fun q j hq => by
  unfold iv_cpy
  rw [if_neg (fun (z : q = e ∧ dp ≤ j ∧ j < dp + n) => c j (z.1 ▸ hq))]
  exact h q j hq
theorem nb {c s : Nat} {n : Nat} {k : Nat} (hs : ∀ i, i < n → iv_sk (iv_pl (i * s + c)) k = 4) (hN : iv_N μ) {i : Int} (i0 : 0 ≤ i) (i1 : i < n) : 0 ≤ μ (i * s + c) k ∧ μ (i * s + c) k < 2 := by
  obtain ⟨j, rfl⟩ := Int.eq_ofNat_of_zero_le i0
  have h := hN (j * s + c) k
  rw [hs j (by omega)] at h
  have h : 0 ≤ μ ((j * s + c : Nat) : Int) k ∧ μ ((j * s + c : Nat) : Int) k ≤ 1 := h
  rw [show ((j * s + c : Nat) : Int) = (j : Int) * s + c by simp] at h
  omega
theorem nb1 {c : Nat} {n : Nat} {k : Nat} (hs : ∀ i, i < n → iv_sk (iv_pl (i + c)) k = 4) (hN : iv_N μ) {i : Int} (i0 : 0 ≤ i) (i1 : i < n) : 0 ≤ μ (i + c) k ∧ μ (i + c) k < 2 := by
  obtain ⟨j, rfl⟩ := Int.eq_ofNat_of_zero_le i0
  have h := hN (j + c) k
  rw [hs j (by omega)] at h
  have h : 0 ≤ μ ((j + c : Nat) : Int) k ∧ μ ((j + c : Nat) : Int) k ≤ 1 := h
  rw [show ((j + c : Nat) : Int) = (j : Int) + c by omega] at h
  omega
abbrev K_i (p k : Int) : Prop := (p = 106 ∧ k = 2) ∨ (122 ≤ p ∧ p < 132 ∧ k = 0)
theorem tk_i_135 {d : Nat} (hL : L ≤ 3072) (hd : 6 ≤ d) {P : iv_P} {μ0 : iv_M} (hP : ∀ μ, ks K_i μ0 μ → P none μ) : ∀ (n : Nat) (l : Int) (μ : iv_M), 0 ≤ l → 5 ≤ l + n → ks K_i μ0 μ → iv_G L xs vz d 206 135 [some (12, 106), some (12, 39), some (0, l)] [] μ P := by
  intro n
  induction n with
  | zero =>
    intro l μ h0 h1 hk
    refine sgi_206_135 hL hd h0 ?_ ?_ ?_ <;> intros <;> first | (exfalso; omega) | exact hP _ (ks_up (ks_up (ks_up hk (by omega)) (by omega)) (by omega))
  | succ n ih =>
    intro l μ h0 h1 hk
    refine iv_intro (fun hN _ _ => ?_)
    refine sgi_206_135 hL hd h0 ?_ ?_ ?_ <;> intros
    · exact hP _ (ks_up (ks_up (ks_up hk (by omega)) (by omega)) (by omega))
    · exact ih _ _ (by omega) (by omega) (ks_cp (ks_cp (ks_up (ks_up hk (by omega)) (by omega)) (fun k => by omega)) (fun k => by omega))
    · next h1 h2 =>
      refine h2 ?_
      exact nb (c := 91) (s := 3) (n := 5) (k := 0) (by decide +kernel) hN h0 (by omega)
theorem tk_i_87 {d : Nat} (hL : L ≤ 3072) (hd : 6 ≤ d) {P : iv_P} {μ0 : iv_M} (hP : ∀ μ, ks K_i μ0 μ → P none μ) : ∀ (n : Nat) (l : Int) (μ : iv_M), 0 ≤ l → 12 ≤ l + n → ks K_i μ0 μ → iv_G L xs vz d 206 87 [some (12, 106), some (12, 39), some (0, l)] [] μ P := by
  intro n
  induction n with
  | zero =>
    intro l μ h0 h1 hk
    refine sgi_206_87 hL hd h0 ?_ ?_ ?_ <;> intros <;> first | (exfalso; omega) | exact tk_i_135 hL hd hP 5 0 _ (by decide) (by decide) (ks_up (ks_cp (ks_cp (ks_up (ks_up (ks_cp (ks_cp (ks_cp (ks_cp (ks_up hk (by omega)) (fun k => by omega)) (fun k => by omega)) (fun k => by omega)) (fun k => by omega)) (by omega)) (by omega)) (fun k => by omega)) (fun k => by omega)) (by omega))
  | succ n ih =>
    intro l μ h0 h1 hk
    refine iv_intro (fun hN _ _ => ?_)
    refine sgi_206_87 hL hd h0 ?_ ?_ ?_ <;> intros
    · exact tk_i_135 hL hd hP 5 0 _ (by decide) (by decide) (ks_up (ks_cp (ks_cp (ks_up (ks_up (ks_cp (ks_cp (ks_cp (ks_cp (ks_up hk (by omega)) (fun k => by omega)) (fun k => by omega)) (fun k => by omega)) (fun k => by omega)) (by omega)) (by omega)) (fun k => by omega)) (fun k => by omega)) (by omega))
    · exact ih _ _ (by omega) (by omega) (ks_up (ks_up (ks_up (ks_up (ks_up (ks_up (ks_up (ks_up (ks_up (ks_up (ks_up hk (by omega)) (by omega)) (by omega)) (by omega)) (by omega)) (by omega)) (by omega)) (by omega)) (by omega)) (by omega)) (by omega))
    · next h1 h2 =>
      refine h2 ?_
      rw [iv_upd_ne _ _ (Or.inl (by omega)), iv_upd_ne _ _ (Or.inl (by omega)), iv_upd_ne _ _ (Or.inl (by omega)), iv_upd_ne _ _ (Or.inl (by omega)), iv_upd_ne _ _ (Or.inl (by omega)), iv_upd_ne _ _ (Or.inl (by omega)), iv_upd_ne _ _ (Or.inl (by omega)), iv_upd_ne _ _ (Or.inl (by omega)), iv_upd_ne _ _ (Or.inl (by omega)), iv_upd_ne _ _ (Or.inl (by omega))]
      exact nb1 (c := 79) (n := 12) (k := 7) (by decide +kernel) hN h0 (by omega)
theorem tk_i_50 {d : Nat} (hL : L ≤ 3072) (hd : 6 ≤ d) {P : iv_P} {μ0 : iv_M} (hP : ∀ μ, ks K_i μ0 μ → P none μ) : ∀ (n : Nat) (l : Int) (μ : iv_M), 0 ≤ l → 14 ≤ l + n → ks K_i μ0 μ → iv_G L xs vz d 206 50 [some (12, 106), some (12, 39), some (0, l)] [] μ P := by
  intro n
  induction n with
  | zero =>
    intro l μ h0 h1 hk
    refine sgi_206_50 hL hd h0 ?_ ?_ ?_ <;> intros <;> first | (exfalso; omega) | exact tk_i_87 hL hd hP 12 0 _ (by decide) (by decide) (ks_up hk (by omega))
  | succ n ih =>
    intro l μ h0 h1 hk
    refine iv_intro (fun hN _ _ => ?_)
    refine sgi_206_50 hL hd h0 ?_ ?_ ?_ <;> intros
    · exact tk_i_87 hL hd hP 12 0 _ (by decide) (by decide) (ks_up hk (by omega))
    · exact ih _ _ (by omega) (by omega) (ks_up (ks_up (ks_up (ks_up (ks_up (ks_up (ks_up (ks_up (ks_up (ks_up hk (by omega)) (by omega)) (by omega)) (by omega)) (by omega)) (by omega)) (by omega)) (by omega)) (by omega)) (by omega))
    · next h1 h2 =>
      refine h2 ?_
      rw [iv_upd_ne _ _ (Or.inl (by omega)), iv_upd_ne _ _ (Or.inl (by omega)), iv_upd_ne _ _ (Or.inl (by omega)), iv_upd_ne _ _ (Or.inl (by omega)), iv_upd_ne _ _ (Or.inl (by omega)), iv_upd_ne _ _ (Or.inl (by omega)), iv_upd_ne _ _ (Or.inl (by omega)), iv_upd_ne _ _ (Or.inl (by omega)), iv_upd_ne _ _ (Or.inl (by omega))]
      exact nb1 (c := 65) (n := 14) (k := 6) (by decide +kernel) hN h0 (by omega)
theorem tk_i_13 {d : Nat} (hL : L ≤ 3072) (hd : 6 ≤ d) {P : iv_P} {μ0 : iv_M} (hP : ∀ μ, μ 106 2 = μ0 39 2 → (∀ i : Int, 0 ≤ i → i < 10 → μ (i + 122) 0 = μ0 (i + 55) 0) → P none μ) : ∀ (n : Nat) (l : Int) (μ : iv_M), 0 ≤ l → 10 ≤ l + n → l ≤ 10 → μ 39 2 = μ0 39 2 → (∀ i : Int, 0 ≤ i → i < 10 → μ (i + 55) 0 = μ0 (i + 55) 0) → (∀ i : Int, 0 ≤ i → i < l → μ (i + 122) 0 = μ0 (i + 55) 0) → iv_G L xs vz d 206 13 [some (12, 106), some (12, 39), some (0, l)] [] μ P := by
  intro n
  have fin : ∀ (l : Int) (μ : iv_M), l ≥ 10 → μ 39 2 = μ0 39 2 → (∀ i : Int, 0 ≤ i → i < l → μ (i + 122) 0 = μ0 (i + 55) 0) → iv_G L xs vz d 206 50 [some (12, 106), some (12, 39), some (0, 0)] [] (iv_upd μ 106 2 (μ 39 2)) P := by
    intro l μ hl e1 e3
    refine tk_i_50 hL hd (μ0 := iv_upd μ 106 2 (μ 39 2)) (fun μ' h => ?_) 14 0 _ (by decide) (by decide) (ks_rfl _)
    refine hP μ' ?_ (fun i i0 i1 => ?_)
    · rw [h 106 2 (by omega), iv_upd_same, e1]
    · rw [h (i + 122) 0 (by omega), iv_upd_ne _ _ (Or.inl (by omega)), e3 i i0 (by omega)]
  induction n with
  | zero =>
    intro l μ h0 h1 h9 e1 e2 e3
    refine sgi_206_13 hL hd h0 ?_ ?_ ?_ <;> intros <;> first | (exfalso; omega) | exact fin l μ (by omega) e1 e3
  | succ n ih =>
    intro l μ h0 h1 h9 e1 e2 e3
    refine iv_intro (fun hN _ _ => ?_)
    refine sgi_206_13 hL hd h0 ?_ ?_ ?_ <;> intros
    · exact fin l μ (by omega) e1 e3
    · refine ih _ _ (by omega) (by omega) (by omega) ?_ (fun i i0 i1 => ?_) (fun i i0 i1 => ?_)
      · rw [iv_upd_ne _ _ (Or.inl (by omega)), iv_upd_ne _ _ (Or.inl (by omega)), iv_upd_ne _ _ (Or.inl (by omega)), iv_upd_ne _ _ (Or.inl (by omega)), iv_upd_ne _ _ (Or.inl (by omega)), iv_upd_ne _ _ (Or.inl (by omega)), iv_upd_ne _ _ (Or.inl (by omega)), iv_upd_ne _ _ (Or.inl (by omega)), iv_upd_ne _ _ (Or.inl (by omega)), iv_upd_ne _ _ (Or.inl (by omega)), e1]
      · rw [iv_upd_ne _ _ (Or.inl (by omega)), iv_upd_ne _ _ (Or.inl (by omega)), iv_upd_ne _ _ (Or.inl (by omega)), iv_upd_ne _ _ (Or.inl (by omega)), iv_upd_ne _ _ (Or.inl (by omega)), iv_upd_ne _ _ (Or.inl (by omega)), iv_upd_ne _ _ (Or.inl (by omega)), iv_upd_ne _ _ (Or.inl (by omega)), iv_upd_ne _ _ (Or.inl (by omega)), iv_upd_ne _ _ (Or.inl (by omega)), e2 i i0 i1]
      · by_cases hi : i = l
        · subst hi
          rw [iv_upd_ne _ _ (Or.inr (by decide)), iv_upd_ne _ _ (Or.inr (by decide)), iv_upd_ne _ _ (Or.inr (by decide)), iv_upd_ne _ _ (Or.inr (by decide)), iv_upd_ne _ _ (Or.inr (by decide)), iv_upd_ne _ _ (Or.inr (by decide)), iv_upd_ne _ _ (Or.inr (by decide)), iv_upd_ne _ _ (Or.inr (by decide)), iv_upd_ne _ _ (Or.inr (by decide)), iv_upd_same, e2 i i0 (by omega)]
        · rw [iv_upd_ne _ _ (Or.inl (by omega)), iv_upd_ne _ _ (Or.inl (by omega)), iv_upd_ne _ _ (Or.inl (by omega)), iv_upd_ne _ _ (Or.inl (by omega)), iv_upd_ne _ _ (Or.inl (by omega)), iv_upd_ne _ _ (Or.inl (by omega)), iv_upd_ne _ _ (Or.inl (by omega)), iv_upd_ne _ _ (Or.inl (by omega)), iv_upd_ne _ _ (Or.inl (by omega)), iv_upd_ne _ _ (Or.inl (by omega)), e3 i i0 (by omega)]
    · next h1 h2 =>
      refine h2 ?_
      rw [iv_upd_ne _ _ (Or.inl (by omega)), iv_upd_ne _ _ (Or.inl (by omega)), iv_upd_ne _ _ (Or.inl (by omega)), iv_upd_ne _ _ (Or.inl (by omega)), iv_upd_ne _ _ (Or.inl (by omega)), iv_upd_ne _ _ (Or.inl (by omega)), iv_upd_ne _ _ (Or.inl (by omega)), iv_upd_ne _ _ (Or.inl (by omega)), iv_upd_ne _ _ (Or.inl (by omega))]
      exact nb1 (c := 55) (n := 10) (k := 6) (by decide +kernel) hN h0 (by omega)
theorem tk_i {d : Nat} (hL : L ≤ 3072) (hd : 6 ≤ d) : iv_C L xs vz d 206 [(12, 106), (12, 39)] μ (fun r μ' => r = none ∧ μ' 106 2 = μ 39 2 ∧ ∀ i : Int, 0 ≤ i → i < 10 → μ' (i + 122) 0 = μ (i + 55) 0) := by
  refine iv_C_of (sgi_206_0 hL hd ?_)
  have c1 : ∀ p k, p ≠ 108 → p ≠ 109 → iv_cpy (iv_cpy μ 41 0 108 0 36) 42 0 109 0 36 p k = μ p k := fun p k a b => by
    unfold iv_cpy
    rw [if_neg (fun z => b z.1), if_neg (fun z => a z.1)]
  refine tk_i_13 hL hd (μ0 := μ) (fun μ' a b => ⟨rfl, a, b⟩) 10 0 _ (by decide) (by decide) (by decide) (c1 _ _ (by decide) (by decide)) (fun i i0 i1 => c1 _ _ (by omega) (by omega)) (fun i i0 i1 => by omega)
abbrev K_r (p k : Int) : Prop := (p = 39 ∧ k = 2) ∨ (55 ≤ p ∧ p < 65 ∧ k = 0)
theorem tk_r_135 {d : Nat} (hL : L ≤ 3072) (hd : 6 ≤ d) {P : iv_P} {μ0 : iv_M} (hP : ∀ μ, ks K_r μ0 μ → P none μ) : ∀ (n : Nat) (l : Int) (μ : iv_M), 0 ≤ l → 5 ≤ l + n → ks K_r μ0 μ → iv_G L xs vz d 206 135 [some (12, 39), some (12, 106), some (0, l)] [] μ P := by
  intro n
  induction n with
  | zero =>
    intro l μ h0 h1 hk
    refine sgr_206_135 hL hd h0 ?_ ?_ ?_ <;> intros <;> first | (exfalso; omega) | exact hP _ (ks_up (ks_up (ks_up hk (by omega)) (by omega)) (by omega))
  | succ n ih =>
    intro l μ h0 h1 hk
    refine iv_intro (fun hN _ _ => ?_)
    refine sgr_206_135 hL hd h0 ?_ ?_ ?_ <;> intros
    · exact hP _ (ks_up (ks_up (ks_up hk (by omega)) (by omega)) (by omega))
    · exact ih _ _ (by omega) (by omega) (ks_cp (ks_cp (ks_up (ks_up hk (by omega)) (by omega)) (fun k => by omega)) (fun k => by omega))
    · next h1 h2 =>
      refine h2 ?_
      exact nb (c := 158) (s := 3) (n := 5) (k := 0) (by decide +kernel) hN h0 (by omega)
theorem tk_r_87 {d : Nat} (hL : L ≤ 3072) (hd : 6 ≤ d) {P : iv_P} {μ0 : iv_M} (hP : ∀ μ, ks K_r μ0 μ → P none μ) : ∀ (n : Nat) (l : Int) (μ : iv_M), 0 ≤ l → 12 ≤ l + n → ks K_r μ0 μ → iv_G L xs vz d 206 87 [some (12, 39), some (12, 106), some (0, l)] [] μ P := by
  intro n
  induction n with
  | zero =>
    intro l μ h0 h1 hk
    refine sgr_206_87 hL hd h0 ?_ ?_ ?_ <;> intros <;> first | (exfalso; omega) | exact tk_r_135 hL hd hP 5 0 _ (by decide) (by decide) (ks_up (ks_cp (ks_cp (ks_up (ks_up (ks_cp (ks_cp (ks_cp (ks_cp (ks_up hk (by omega)) (fun k => by omega)) (fun k => by omega)) (fun k => by omega)) (fun k => by omega)) (by omega)) (by omega)) (fun k => by omega)) (fun k => by omega)) (by omega))
  | succ n ih =>
    intro l μ h0 h1 hk
    refine iv_intro (fun hN _ _ => ?_)
    refine sgr_206_87 hL hd h0 ?_ ?_ ?_ <;> intros
    · exact tk_r_135 hL hd hP 5 0 _ (by decide) (by decide) (ks_up (ks_cp (ks_cp (ks_up (ks_up (ks_cp (ks_cp (ks_cp (ks_cp (ks_up hk (by omega)) (fun k => by omega)) (fun k => by omega)) (fun k => by omega)) (fun k => by omega)) (by omega)) (by omega)) (fun k => by omega)) (fun k => by omega)) (by omega))
    · exact ih _ _ (by omega) (by omega) (ks_up (ks_up (ks_up (ks_up (ks_up (ks_up (ks_up (ks_up (ks_up (ks_up (ks_up hk (by omega)) (by omega)) (by omega)) (by omega)) (by omega)) (by omega)) (by omega)) (by omega)) (by omega)) (by omega)) (by omega))
    · next h1 h2 =>
      refine h2 ?_
      rw [iv_upd_ne _ _ (Or.inl (by omega)), iv_upd_ne _ _ (Or.inl (by omega)), iv_upd_ne _ _ (Or.inl (by omega)), iv_upd_ne _ _ (Or.inl (by omega)), iv_upd_ne _ _ (Or.inl (by omega)), iv_upd_ne _ _ (Or.inl (by omega)), iv_upd_ne _ _ (Or.inl (by omega)), iv_upd_ne _ _ (Or.inl (by omega)), iv_upd_ne _ _ (Or.inl (by omega)), iv_upd_ne _ _ (Or.inl (by omega))]
      exact nb1 (c := 146) (n := 12) (k := 7) (by decide +kernel) hN h0 (by omega)
theorem tk_r_50 {d : Nat} (hL : L ≤ 3072) (hd : 6 ≤ d) {P : iv_P} {μ0 : iv_M} (hP : ∀ μ, ks K_r μ0 μ → P none μ) : ∀ (n : Nat) (l : Int) (μ : iv_M), 0 ≤ l → 14 ≤ l + n → ks K_r μ0 μ → iv_G L xs vz d 206 50 [some (12, 39), some (12, 106), some (0, l)] [] μ P := by
  intro n
  induction n with
  | zero =>
    intro l μ h0 h1 hk
    refine sgr_206_50 hL hd h0 ?_ ?_ ?_ <;> intros <;> first | (exfalso; omega) | exact tk_r_87 hL hd hP 12 0 _ (by decide) (by decide) (ks_up hk (by omega))
  | succ n ih =>
    intro l μ h0 h1 hk
    refine iv_intro (fun hN _ _ => ?_)
    refine sgr_206_50 hL hd h0 ?_ ?_ ?_ <;> intros
    · exact tk_r_87 hL hd hP 12 0 _ (by decide) (by decide) (ks_up hk (by omega))
    · exact ih _ _ (by omega) (by omega) (ks_up (ks_up (ks_up (ks_up (ks_up (ks_up (ks_up (ks_up (ks_up (ks_up hk (by omega)) (by omega)) (by omega)) (by omega)) (by omega)) (by omega)) (by omega)) (by omega)) (by omega)) (by omega))
    · next h1 h2 =>
      refine h2 ?_
      rw [iv_upd_ne _ _ (Or.inl (by omega)), iv_upd_ne _ _ (Or.inl (by omega)), iv_upd_ne _ _ (Or.inl (by omega)), iv_upd_ne _ _ (Or.inl (by omega)), iv_upd_ne _ _ (Or.inl (by omega)), iv_upd_ne _ _ (Or.inl (by omega)), iv_upd_ne _ _ (Or.inl (by omega)), iv_upd_ne _ _ (Or.inl (by omega)), iv_upd_ne _ _ (Or.inl (by omega))]
      exact nb1 (c := 132) (n := 14) (k := 6) (by decide +kernel) hN h0 (by omega)
theorem tk_r_13 {d : Nat} (hL : L ≤ 3072) (hd : 6 ≤ d) {P : iv_P} {μ0 : iv_M} (hP : ∀ μ, μ 39 2 = μ0 106 2 → (∀ i : Int, 0 ≤ i → i < 10 → μ (i + 55) 0 = μ0 (i + 122) 0) → P none μ) : ∀ (n : Nat) (l : Int) (μ : iv_M), 0 ≤ l → 10 ≤ l + n → l ≤ 10 → μ 106 2 = μ0 106 2 → (∀ i : Int, 0 ≤ i → i < 10 → μ (i + 122) 0 = μ0 (i + 122) 0) → (∀ i : Int, 0 ≤ i → i < l → μ (i + 55) 0 = μ0 (i + 122) 0) → iv_G L xs vz d 206 13 [some (12, 39), some (12, 106), some (0, l)] [] μ P := by
  intro n
  have fin : ∀ (l : Int) (μ : iv_M), l ≥ 10 → μ 106 2 = μ0 106 2 → (∀ i : Int, 0 ≤ i → i < l → μ (i + 55) 0 = μ0 (i + 122) 0) → iv_G L xs vz d 206 50 [some (12, 39), some (12, 106), some (0, 0)] [] (iv_upd μ 39 2 (μ 106 2)) P := by
    intro l μ hl e1 e3
    refine tk_r_50 hL hd (μ0 := iv_upd μ 39 2 (μ 106 2)) (fun μ' h => ?_) 14 0 _ (by decide) (by decide) (ks_rfl _)
    refine hP μ' ?_ (fun i i0 i1 => ?_)
    · rw [h 39 2 (by omega), iv_upd_same, e1]
    · rw [h (i + 55) 0 (by omega), iv_upd_ne _ _ (Or.inl (by omega)), e3 i i0 (by omega)]
  induction n with
  | zero =>
    intro l μ h0 h1 h9 e1 e2 e3
    refine sgr_206_13 hL hd h0 ?_ ?_ ?_ <;> intros <;> first | (exfalso; omega) | exact fin l μ (by omega) e1 e3
  | succ n ih =>
    intro l μ h0 h1 h9 e1 e2 e3
    refine iv_intro (fun hN _ _ => ?_)
    refine sgr_206_13 hL hd h0 ?_ ?_ ?_ <;> intros
    · exact fin l μ (by omega) e1 e3
    · refine ih _ _ (by omega) (by omega) (by omega) ?_ (fun i i0 i1 => ?_) (fun i i0 i1 => ?_)
      · rw [iv_upd_ne _ _ (Or.inl (by omega)), iv_upd_ne _ _ (Or.inl (by omega)), iv_upd_ne _ _ (Or.inl (by omega)), iv_upd_ne _ _ (Or.inl (by omega)), iv_upd_ne _ _ (Or.inl (by omega)), iv_upd_ne _ _ (Or.inl (by omega)), iv_upd_ne _ _ (Or.inl (by omega)), iv_upd_ne _ _ (Or.inl (by omega)), iv_upd_ne _ _ (Or.inl (by omega)), iv_upd_ne _ _ (Or.inl (by omega)), e1]
      · rw [iv_upd_ne _ _ (Or.inl (by omega)), iv_upd_ne _ _ (Or.inl (by omega)), iv_upd_ne _ _ (Or.inl (by omega)), iv_upd_ne _ _ (Or.inl (by omega)), iv_upd_ne _ _ (Or.inl (by omega)), iv_upd_ne _ _ (Or.inl (by omega)), iv_upd_ne _ _ (Or.inl (by omega)), iv_upd_ne _ _ (Or.inl (by omega)), iv_upd_ne _ _ (Or.inl (by omega)), iv_upd_ne _ _ (Or.inl (by omega)), e2 i i0 i1]
      · by_cases hi : i = l
        · subst hi
          rw [iv_upd_ne _ _ (Or.inr (by decide)), iv_upd_ne _ _ (Or.inr (by decide)), iv_upd_ne _ _ (Or.inr (by decide)), iv_upd_ne _ _ (Or.inr (by decide)), iv_upd_ne _ _ (Or.inr (by decide)), iv_upd_ne _ _ (Or.inr (by decide)), iv_upd_ne _ _ (Or.inr (by decide)), iv_upd_ne _ _ (Or.inr (by decide)), iv_upd_ne _ _ (Or.inr (by decide)), iv_upd_same, e2 i i0 (by omega)]
        · rw [iv_upd_ne _ _ (Or.inl (by omega)), iv_upd_ne _ _ (Or.inl (by omega)), iv_upd_ne _ _ (Or.inl (by omega)), iv_upd_ne _ _ (Or.inl (by omega)), iv_upd_ne _ _ (Or.inl (by omega)), iv_upd_ne _ _ (Or.inl (by omega)), iv_upd_ne _ _ (Or.inl (by omega)), iv_upd_ne _ _ (Or.inl (by omega)), iv_upd_ne _ _ (Or.inl (by omega)), iv_upd_ne _ _ (Or.inl (by omega)), e3 i i0 (by omega)]
    · next h1 h2 =>
      refine h2 ?_
      rw [iv_upd_ne _ _ (Or.inl (by omega)), iv_upd_ne _ _ (Or.inl (by omega)), iv_upd_ne _ _ (Or.inl (by omega)), iv_upd_ne _ _ (Or.inl (by omega)), iv_upd_ne _ _ (Or.inl (by omega)), iv_upd_ne _ _ (Or.inl (by omega)), iv_upd_ne _ _ (Or.inl (by omega)), iv_upd_ne _ _ (Or.inl (by omega)), iv_upd_ne _ _ (Or.inl (by omega))]
      exact nb1 (c := 122) (n := 10) (k := 6) (by decide +kernel) hN h0 (by omega)
theorem tk_r {d : Nat} (hL : L ≤ 3072) (hd : 6 ≤ d) : iv_C L xs vz d 206 [(12, 39), (12, 106)] μ (fun r μ' => r = none ∧ μ' 39 2 = μ 106 2 ∧ ∀ i : Int, 0 ≤ i → i < 10 → μ' (i + 55) 0 = μ (i + 122) 0) := by
  refine iv_C_of (sgr_206_0 hL hd ?_)
  have c1 : ∀ p k, p ≠ 41 → p ≠ 42 → iv_cpy (iv_cpy μ 108 0 41 0 36) 109 0 42 0 36 p k = μ p k := fun p k a b => by
    unfold iv_cpy
    rw [if_neg (fun z => b z.1), if_neg (fun z => a z.1)]
  refine tk_r_13 hL hd (μ0 := μ) (fun μ' a b => ⟨rfl, a, b⟩) 10 0 _ (by decide) (by decide) (by decide) (c1 _ _ (by decide) (by decide)) (fun i i0 i1 => c1 _ _ (by omega) (by omega)) (fun i i0 i1 => by omega)
theorem image_c {d : Nat} (hL : L ≤ 3072) (hd : 20 ≤ d) : iv_C L xs vz d 205 [(13, 38)] μ (fun _ μ' => μ' 38 2 = 1 ∧ μ' 106 2 = μ 39 2 ∧ ∀ i : Int, 0 ≤ i → i < 10 → μ' (i + 122) 0 = μ (i + 55) 0) := by
  refine iv_C_of (sg_205_0 hL (by omega) ?_)
  refine iv_call (want := 1) (y := 205) (pc := 8) (z := 206) (cls := 10) (sa := [(12, 39)]) (th := [(12, 106)]) (r := []) (d' := d - 1) (show iv_cck 1 205 8 206 = true by decide +kernel) (Or.inl ⟨rfl, _, rfl⟩) (show iv_mck 1 206 1 10 2 = true by decide +kernel) (show (0 : Nat) ≤ 8 by decide) (by omega) (iv_C_mono (tk_i hL (by omega)) (fun v μ1 hp => ?_))
  obtain ⟨rfl, h1, h2⟩ := hp
  exact sg_205_11 hL (by omega) ⟨iv_upd_same _ _ _ _, by rw [iv_upd_ne _ _ (Or.inl (by decide))]; exact h1, fun i i0 i1 => by rw [iv_upd_ne _ _ (Or.inl (by omega))]; exact h2 i i0 i1⟩
theorem restore_c {d : Nat} (hL : L ≤ 3072) (hd : 20 ≤ d) : iv_C L xs vz d 212 [(13, 38)] μ (fun _ μ' => (μ 38 2 = 0 → fA μ μ') ∧ (μ 38 2 ≠ 0 → μ' 39 2 = μ 106 2 ∧ ∀ i : Int, 0 ≤ i → i < 10 → μ' (i + 55) 0 = μ (i + 122) 0)) := by
  refine iv_C_of (sg_212_0 hL (by omega) ?_ ?_) <;> intro h0
  · refine iv_call (want := 1) (y := 212) (pc := 22) (z := 206) (cls := 10) (sa := [(12, 106)]) (th := [(12, 39)]) (r := []) (d' := d - 1) (show iv_cck 1 212 22 206 = true by decide +kernel) (Or.inl ⟨rfl, _, rfl⟩) (show iv_mck 1 206 1 10 2 = true by decide +kernel) (show (0 : Nat) ≤ 8 by decide) (by omega) (iv_C_mono (tk_r hL (by omega)) (fun v μ1 hp => ?_))
    obtain ⟨rfl, h1, h2⟩ := hp
    exact sg_212_25 hL (by omega) ⟨fun q => absurd q h0, fun _ => ⟨h1, h2⟩⟩
  · exact ⟨fun _ => ⟨iv_upd_ne _ _ (Or.inl (by decide)), fun i i0 i1 => iv_upd_ne _ _ (Or.inl (by omega))⟩, fun q => absurd h0 q⟩
theorem image_r {d : Nat} (hL : L ≤ 3072) (hd : 6 ≤ d) : iv_C L xs vz d 327 [(14, 195)] μ (fun _ μ' => μ' 195 2 = 1 ∧ ∀ j : Int, 0 ≤ j → j < 2973 → μ' 197 j = μ 196 j) := by
  refine iv_C_of (sg_327_0 hL hd ?_)
  have key : ∀ (n : Nat) (l : Int) (m : iv_M), 0 ≤ l → 2973 ≤ l + n → (∀ j, m 196 j = μ 196 j) → (∀ j : Int, 0 ≤ j → j < l → m 197 j = μ 196 j) → iv_G L xs vz d 327 2 [some (14, 195), some (0, l)] [] m (fun _ μ' => μ' 195 2 = 1 ∧ ∀ j : Int, 0 ≤ j → j < 2973 → μ' 197 j = μ 196 j) := by
    intro n
    induction n with
    | zero =>
      intro l m h0 h1 e1 e2
      refine sg_327_2 hL hd h0 ?_ ?_ <;> intros
      · exact ⟨iv_upd_same _ _ _ _, fun j j0 j1 => by rw [iv_upd_ne _ _ (Or.inl (by decide))]; exact e2 j j0 (by omega)⟩
      · exfalso; omega
    | succ n ih =>
      intro l m h0 h1 e1 e2
      refine sg_327_2 hL hd h0 ?_ ?_ <;> intros
      · exact ⟨iv_upd_same _ _ _ _, fun j j0 j1 => by rw [iv_upd_ne _ _ (Or.inl (by decide))]; exact e2 j j0 (by omega)⟩
      · refine ih _ _ (by omega) (by omega) (fun j => by rw [iv_upd_ne _ _ (Or.inl (by decide))]; exact e1 j) (fun j j0 j1 => ?_)
        by_cases hj : j = l
        · rw [hj, iv_upd_same, e1]
        · rw [iv_upd_ne _ _ (Or.inr hj)]; exact e2 j j0 (by omega)
  exact key 2973 0 μ (by decide) (by decide) (fun _ => rfl) (fun j j0 j1 => by omega)
theorem restore_r {d : Nat} (hL : L ≤ 3072) (hd : 6 ≤ d) : iv_C L xs vz d 328 [(14, 195)] μ (fun _ μ' => (μ 195 2 = 0 → fD μ μ' ∧ fE μ μ') ∧ (μ 195 2 ≠ 0 → ∀ j : Int, 0 ≤ j → j < 2973 → μ' 196 j = μ 197 j)) := by
  refine iv_C_of (sg_328_0 hL hd ?_ ?_) <;> intro hz
  · have key : ∀ (n : Nat) (l : Int) (m : iv_M), 0 ≤ l → 2973 ≤ l + n → (∀ j, m 197 j = μ 197 j) → (∀ j : Int, 0 ≤ j → j < l → m 196 j = μ 197 j) → iv_G L xs vz d 328 16 [some (14, 195), some (0, l)] [] m (fun _ μ' => (μ 195 2 = 0 → fD μ μ' ∧ fE μ μ') ∧ (μ 195 2 ≠ 0 → ∀ j : Int, 0 ≤ j → j < 2973 → μ' 196 j = μ 197 j)) := by
      intro n
      induction n with
      | zero =>
        intro l m h0 h1 e1 e2
        refine sg_328_16 hL hd h0 ?_ ?_ <;> intros
        · exact ⟨fun q => absurd q hz, fun _ j j0 j1 => e2 j j0 (by omega)⟩
        · exfalso; omega
      | succ n ih =>
        intro l m h0 h1 e1 e2
        refine sg_328_16 hL hd h0 ?_ ?_ <;> intros
        · exact ⟨fun q => absurd q hz, fun _ j j0 j1 => e2 j j0 (by omega)⟩
        · refine ih _ _ (by omega) (by omega) (fun j => by rw [iv_upd_ne _ _ (Or.inl (by decide))]; exact e1 j) (fun j j0 j1 => ?_)
          by_cases hj : j = l
          · rw [hj, iv_upd_same, e1]
          · rw [iv_upd_ne _ _ (Or.inr hj)]; exact e2 j j0 (by omega)
    exact key 2973 0 μ (by decide) (by decide) (fun _ => rfl) (fun j j0 j1 => by omega)
  · exact ⟨fun _ => ⟨iv_upd_ne _ _ (Or.inl (by decide)), fun i i0 i1 => iv_upd_ne _ _ (Or.inl (by decide))⟩, fun q => absurd hz q⟩
end P4B
