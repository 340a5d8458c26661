/-! ===== methods by their values: numbers ===== -/
theorem iv_w_i32 (z : Int) : iv_i32 (iv_w z) := by
  have h := se_i32 (Int32.ofInt z)
  unfold se_lo se_hi at h
  exact h
theorem iv_t32 (x : Int32) : iv_i32 x.toInt := by
  have h := se_i32 x
  unfold se_lo se_hi at h
  exact h
theorem iv_t64 (x : Int64) : iv_i64 x.toInt := by
  have h1 := Int64.toInt_lt x
  have h2 := Int64.le_toInt x
  unfold iv_i64
  omega
theorem iv_of32 {x : Int} (h : iv_i32 x) : (Int32.ofInt x).toInt = x := by
  unfold iv_i32 at h
  exact Int32.toInt_ofInt_of_le (by omega) (by omega)
theorem iv_of64 {x : Int} (h : iv_i64 x) : (Int64.ofInt x).toInt = x := by
  unfold iv_i64 at h
  exact Int64.toInt_ofInt_of_le (by omega) (by omega)
theorem iv_ofw (z : Int) : Int32.ofInt (iv_w z) = Int32.ofInt z := by unfold iv_w; rw [Int32.ofInt_toInt]
theorem iv_w_id {x : Int} (h1 : -2147483648 ≤ x) (h2 : x ≤ 2147483647) : iv_w x = x := iv_of32 ⟨h1, h2⟩
theorem iv_lt32 {x y : Int} (hx : iv_i32 x) (hy : iv_i32 y) : (Int32.ofInt x < Int32.ofInt y) ↔ x < y := by
  rw [Int32.lt_iff_toInt_lt, iv_of32 hx, iv_of32 hy]
theorem iv_le32 {x y : Int} (hx : iv_i32 x) (hy : iv_i32 y) : (Int32.ofInt x ≤ Int32.ofInt y) ↔ x ≤ y := by
  rw [Int32.le_iff_toInt_le, iv_of32 hx, iv_of32 hy]
theorem iv_eq32 {x y : Int} (hx : iv_i32 x) (hy : iv_i32 y) : (Int32.ofInt x = Int32.ofInt y) ↔ x = y := by
  refine ⟨fun h => ?_, fun h => by rw [h]⟩
  have := congrArg Int32.toInt h
  rwa [iv_of32 hx, iv_of32 hy] at this
theorem iv_lt64 {x y : Int} (hx : iv_i64 x) (hy : iv_i64 y) : (Int64.ofInt x < Int64.ofInt y) ↔ x < y := by
  rw [Int64.lt_iff_toInt_lt, iv_of64 hx, iv_of64 hy]
theorem iv_eq64 {x y : Int} (hx : iv_i64 x) (hy : iv_i64 y) : (Int64.ofInt x = Int64.ofInt y) ↔ x = y := by
  refine ⟨fun h => ?_, fun h => by rw [h]⟩
  have := congrArg Int64.toInt h
  rwa [iv_of64 hx, iv_of64 hy] at this
theorem iv_3264 {x : Int} (h : iv_i32 x) : iv_i64 x := by unfold iv_i32 at h; unfold iv_i64; omega
/-- an op on two ints -/
def iv_fo (o : Nat) : Int32 → Int32 → Int32 := match o with
  | 1 => fun x y => x + y
  | 2 => fun x y => x - y
  | 3 => fun x y => x * y
  | 4 => fun x y => x &&& y
  | 5 => fun x y => x ||| y
  | 6 => fun x y => x ^^^ y
  | 7 => fun x y => x <<< (y &&& 31)
  | 8 => fun x y => x >>> (y &&& 31)
  | 9 => fun x y => (x.toUInt32 >>> (y.toUInt32 &&& Int32.toUInt32 31)).toInt32
  | 10 => fun x y => x / y
  | 11 => fun x y => x - x / y * y
  | 12 => fun x _ => -x
  | 13 => fun x _ => x.toInt8.toInt32
  | 14 => fun x _ => x.toInt16.toInt32
  | 15 => fun x _ => (x.toUInt32 % 65536).toInt32
  | 16 => fun x y => if x < y then y else x
  | 17 => fun x y => if y < x then y else x
  | 18 => fun x _ => x &&& 1
  | _ => fun _ _ => 0
theorem iv_op_ok {o : Nat} (ho : o ≤ 18) (h0 : o ≠ 0) {a b : Int} (ha : iv_i32 a) (hb : iv_i32 b) : Int32.ofInt (iv_op o a b) = iv_fo o (Int32.ofInt a) (Int32.ofInt b) ∧ iv_i32 (iv_op o a b) := by
  have key : ∀ (z : Int) (x : Int32), z = x.toInt → Int32.ofInt z = x ∧ iv_i32 z := fun z x e => by
    subst e
    exact ⟨Int32.ofInt_toInt x, iv_t32 x⟩
  match o, ho, h0 with
  | 1, _, _ => exact key _ _ (by show iv_w (a + b) = (Int32.ofInt a + Int32.ofInt b).toInt; rw [← Int32.ofInt_add]; rfl)
  | 2, _, _ => exact key _ _ (by show iv_w (a - b) = (Int32.ofInt a - Int32.ofInt b).toInt; rw [← Int32.ofInt_sub]; rfl)
  | 3, _, _ => exact key _ _ (by show iv_w (a * b) = (Int32.ofInt a * Int32.ofInt b).toInt; rw [← Int32.ofInt_mul]; rfl)
  | 4, _, _ => exact key _ _ rfl
  | 5, _, _ => exact key _ _ rfl
  | 6, _, _ => exact key _ _ rfl
  | 7, _, _ => exact key _ _ rfl
  | 8, _, _ => exact key _ _ rfl
  | 9, _, _ => exact key _ _ rfl
  | 10, _, _ => exact key _ _ rfl
  | 11, _, _ => exact key _ _ rfl
  | 12, _, _ => exact key _ _ (by show iv_w (-a) = (-Int32.ofInt a).toInt; rw [← Int32.ofInt_neg]; rfl)
  | 13, _, _ => exact key _ _ rfl
  | 14, _, _ => exact key _ _ rfl
  | 15, _, _ => exact key _ _ rfl
  | 16, _, _ =>
    refine key _ _ ?_
    show iv_max a b = (if Int32.ofInt a < Int32.ofInt b then Int32.ofInt b else Int32.ofInt a).toInt
    unfold iv_max
    by_cases h : a < b
    · rw [if_pos h, if_pos ((iv_lt32 ha hb).mpr h), iv_of32 hb]
    · rw [if_neg h, if_neg (fun q => h ((iv_lt32 ha hb).mp q)), iv_of32 ha]
  | 17, _, _ =>
    refine key _ _ ?_
    show iv_min a b = (if Int32.ofInt b < Int32.ofInt a then Int32.ofInt b else Int32.ofInt a).toInt
    unfold iv_min
    by_cases h : b < a
    · rw [if_pos h, if_pos ((iv_lt32 hb ha).mpr h), iv_of32 hb]
    · rw [if_neg h, if_neg (fun q => h ((iv_lt32 hb ha).mp q)), iv_of32 ha]
  | 18, _, _ => exact key _ _ rfl
  | n + 19, h, _ => omega
/-! comparisons -/
def iv_ci (c : Nat) (a b : Int) : Prop := match c with
  | 0 => a < b
  | 1 => a ≤ b
  | 2 => a > b
  | 3 => a ≥ b
  | 4 => a = b
  | 5 => a ≠ b
  | 6 => 0 ≤ a ∧ a < b
  | _ => ¬ (0 ≤ a ∧ a < b)
theorem iv_neg_ok {c : Nat} {a b : Int} (h : ¬ iv_ci c a b) : iv_ci (iv_neg c) a b := by
  match c, h with
  | 0, h => exact Int.not_lt.mp h
  | 1, h => exact Int.not_le.mp h
  | 2, h => exact Int.not_lt.mp h
  | 3, h => exact Int.not_le.mp h
  | 4, h => exact h
  | 5, h => exact Classical.not_not.mp h
  | 6, h => exact h
  | n + 7, h => exact Classical.not_not.mp h
theorem iv_eq_ok : ∀ {a b : iv_E}, iv_eq a b = true → a = b := by
  intro a
  induction a with
  | nil => intro b h; cases b <;> first | rfl | simp [iv_eq] at h
  | line => intro b h; simp [iv_eq] at h
  | align f => intro b h; simp [iv_eq] at h
  | text s => intro b h; simp [iv_eq] at h
  | nest n x ih =>
    intro b h
    cases b <;> first | (simp [iv_eq] at h; done) | skip
    simp only [iv_eq, Bool.and_eq_true, decide_eq_true_eq] at h
    rw [h.1, ih h.2]
  | append x y ih1 ih2 =>
    intro b h
    cases b <;> first | (simp [iv_eq] at h; done) | skip
    simp only [iv_eq, Bool.and_eq_true] at h
    rw [ih1 h.1, ih2 h.2]
  | group x bh ih => intro b h; simp [iv_eq] at h
  | tag n x ih =>
    intro b h
    cases b <;> first | (simp [iv_eq] at h; done) | skip
    simp only [iv_eq, Bool.and_eq_true] at h
    rw [Nat.eq_of_beq_eq_true h.1, ih h.2]
theorem iv_zmax_le {a b z : Int} (h1 : a ≤ z) (h2 : b ≤ z) : iv_zmax a b ≤ z := by unfold iv_zmax; split <;> assumption
theorem iv_le_zmin {a b z : Int} (h1 : z ≤ a) (h2 : z ≤ b) : z ≤ iv_zmin a b := by unfold iv_zmin; split <;> assumption
section IVI
variable {L : Nat} {xs : Nat → Int32} {ρ : List Int} {ms : List iv_M}
def iv_hI (L : Nat) (xs : Nat → Int32) (ρ : List Int) (ms : List iv_M) (I : List iv_I) : Prop := ∀ e ∈ I, iv_ci e.1 (iv_e L xs ρ ms e.2.1) (iv_e L xs ρ ms e.2.2)
theorem iv_e_num (c : Int) : iv_e L xs ρ ms (.nest c .nil) = c := by simp [iv_e]
theorem iv_e_op {o : Nat} (h1 : o ≠ 40) (h2 : o ≠ 43) (a b : iv_E) : iv_e L xs ρ ms (.tag o (.append a b)) = iv_op o (iv_e L xs ρ ms a) (iv_e L xs ρ ms b) := by
  conv => lhs; unfold iv_e
  split
  · next heq => cases heq
  · next heq => cases heq
  · next heq => cases heq
  · next heq => cases heq; exact absurd rfl h1
  · next heq => cases heq; exact absurd rfl h2
  · next heq => cases heq; rfl
  · next h => exact absurd rfl (h _ _ _)
theorem iv_e_40 (a b : iv_E) : iv_e L xs ρ ms (.tag 40 (.append a b)) = iv_sr L xs (iv_e L xs ρ ms a) (iv_e L xs ρ ms b) := by simp [iv_e]
theorem iv_e_43 (a b : iv_E) : iv_e L xs ρ ms (.tag 43 (.append a b)) = iv_ln L xs (iv_e L xs ρ ms a) := by simp [iv_e]
theorem iv_e_rd (j : Int) (p s : iv_E) : iv_e L xs ρ ms (.nest j (.append p s)) = (ms.getD j.toNat (fun _ _ => 0)) (iv_e L xs ρ ms p) (iv_e L xs ρ ms s) := by simp [iv_e]
theorem iv_and_le {x z : Int} (hz : 0 ≤ z) (hz2 : iv_i32 z) : 0 ≤ iv_and x z ∧ iv_and x z ≤ z := by
  have h := se_and_r (x := Int32.ofInt x) (y := Int32.ofInt z) (by rw [iv_of32 hz2]; exact hz)
  rw [iv_of32 hz2] at h
  exact h
def iv_rgo (r : iv_Q) (z : Int) : Prop := (∀ l, r.1 = some l → l ≤ z) ∧ (∀ h, r.2 = some h → z ≤ h)
theorem iv_oadd_some {a b : Option Int} {z : Int} (h : iv_oadd a b = some z) : ∃ x y, a = some x ∧ b = some y ∧ z = x + y := by
  unfold iv_oadd at h
  split at h
  · cases h; exact ⟨_, _, rfl, rfl, rfl⟩
  · cases h
theorem iv_omul_some {a : Option Int} {c z : Int} (h : iv_omul c a = some z) : ∃ x, a = some x ∧ z = x * c := by
  unfold iv_omul at h
  split at h
  · cases h; exact ⟨_, rfl, rfl⟩
  · cases h
theorem iv_omax_le {a b : Option Int} {w : Int} (ha : ∀ l, a = some l → l ≤ w) (hb : ∀ l, b = some l → l ≤ w) : ∀ l, iv_omax a b = some l → l ≤ w := by
  intro l h
  unfold iv_omax at h
  split at h
  · cases h; exact iv_zmax_le (ha _ rfl) (hb _ rfl)
  · exact hb l h
  · exact ha l h
theorem iv_le_omin {a b : Option Int} {w : Int} (ha : ∀ l, a = some l → w ≤ l) (hb : ∀ l, b = some l → w ≤ l) : ∀ l, iv_omin a b = some l → w ≤ l := by
  intro l h
  unfold iv_omin at h
  split at h
  · cases h; exact iv_le_zmin (ha _ rfl) (hb _ rfl)
  · exact hb l h
  · exact ha l h
theorem iv_rS_ok {R : iv_E → iv_Q} {e : iv_E} (hR : ∀ e, iv_rgo (R e) (iv_e L xs ρ ms e)) : iv_rgo (iv_rS R e) (iv_e L xs ρ ms e) := by
  unfold iv_rS
  split
  · rw [iv_e_num]
    exact ⟨fun l h => (by cases h; exact Int.le_refl _), fun l h => by cases h; exact Int.le_refl _⟩
  · next a b =>
    rw [iv_e_op (by decide) (by decide)]
    refine ⟨fun l h => ?_, fun l h => ?_⟩
    · obtain ⟨x, y, h1, h2, rfl⟩ := iv_oadd_some h
      exact Int.add_le_add ((hR a).1 x h1) ((hR b).1 y h2)
    · obtain ⟨x, y, h1, h2, rfl⟩ := iv_oadd_some h
      exact Int.add_le_add ((hR a).2 x h1) ((hR b).2 y h2)
  · next a z =>
    rw [iv_e_op (by decide) (by decide), iv_e_num]
    split
    · next hz =>
      refine ⟨fun l h => ?_, fun l h => ?_⟩
      · obtain ⟨x, h1, rfl⟩ := iv_omul_some h
        exact Int.mul_le_mul_of_nonneg_right ((hR a).1 x h1) hz
      · obtain ⟨x, h1, rfl⟩ := iv_omul_some h
        exact Int.mul_le_mul_of_nonneg_right ((hR a).2 x h1) hz
    · next hz =>
      refine ⟨fun l h => ?_, fun l h => ?_⟩
      · obtain ⟨x, h1, rfl⟩ := iv_omul_some h
        exact Int.mul_le_mul_of_nonpos_right ((hR a).2 x h1) (by omega)
      · obtain ⟨x, h1, rfl⟩ := iv_omul_some h
        exact Int.mul_le_mul_of_nonpos_right ((hR a).1 x h1) (by omega)
  · next x z =>
    split
    · next hz =>
      rw [iv_e_op (by decide) (by decide), iv_e_num]
      have h0 := iv_and_le (x := iv_e L xs ρ ms x) hz.1 ⟨by omega, hz.2⟩
      exact ⟨fun l h => (by cases h; exact h0.1), fun l h => by cases h; exact h0.2⟩
    · exact ⟨fun l h => (by cases h), fun l h => by cases h⟩
  · exact ⟨fun l h => (by cases h), fun l h => by cases h⟩
theorem iv_rC_ok {c : Nat} {q r : iv_Q} {a b : Int} (hc : iv_ci c a b) (hq : iv_rgo q b) (hr : iv_rgo r a) : iv_rgo (iv_rC c q r) a := by
  have hp : ∀ l, iv_oadd q.1 (some 1) = some l → l ≤ b + 1 := fun l h => by
    obtain ⟨x, y, h1, h2, rfl⟩ := iv_oadd_some h
    cases h2
    have := hq.1 x h1
    omega
  have hm : ∀ l, iv_oadd q.2 (some (-1)) = some l → b - 1 ≤ l := fun l h => by
    obtain ⟨x, y, h1, h2, rfl⟩ := iv_oadd_some h
    cases h2
    have := hq.2 x h1
    omega
  unfold iv_rC
  split
  · have hc : a < b := hc
    exact ⟨hr.1, iv_le_omin hr.2 (fun l h => by have := hm l h; omega)⟩
  · have hc : a ≤ b := hc
    exact ⟨hr.1, iv_le_omin hr.2 (fun l h => by have := hq.2 l h; omega)⟩
  · have hc : a > b := hc
    exact ⟨iv_omax_le hr.1 (fun l h => by have := hp l h; omega), hr.2⟩
  · have hc : a ≥ b := hc
    exact ⟨iv_omax_le hr.1 (fun l h => by have := hq.1 l h; omega), hr.2⟩
  · have hc : a = b := hc
    exact ⟨iv_omax_le hr.1 (fun l h => by have := hq.1 l h; omega), iv_le_omin hr.2 (fun l h => by have := hq.2 l h; omega)⟩
  · have hc : 0 ≤ a ∧ a < b := hc
    exact ⟨iv_omax_le hr.1 (fun l h => by cases h; exact hc.1), iv_le_omin hr.2 (fun l h => by have := hm l h; omega)⟩
  · exact hr
theorem iv_rI_ok {R : iv_E → iv_Q} {e : iv_E} (hR : ∀ e, iv_rgo (R e) (iv_e L xs ρ ms e)) : ∀ {I : List iv_I} {r : iv_Q}, iv_hI L xs ρ ms I → iv_rgo r (iv_e L xs ρ ms e) → iv_rgo (iv_rI R e I r) (iv_e L xs ρ ms e)
  | [], r, _, hr => hr
  | f :: t, r, hI, hr => by
    have ht : iv_hI L xs ρ ms t := fun g hg => hI g (List.mem_cons_of_mem _ hg)
    unfold iv_rI
    split
    · next he =>
      have h0 := hI f List.mem_cons_self
      rw [iv_eq_ok he] at h0
      exact iv_rI_ok hR ht (iv_rC_ok h0 (hR _) hr)
    · exact iv_rI_ok hR ht hr
theorem iv_rng_ok {I : List iv_I} (hI : iv_hI L xs ρ ms I) : ∀ (n : Nat) (e : iv_E), iv_rgo (iv_rng n I e) (iv_e L xs ρ ms e)
  | 0, e => ⟨fun l h => (by cases h), fun l h => by cases h⟩
  | n + 1, e => iv_rI_ok (iv_rng_ok hI n) hI (iv_rS_ok (iv_rng_ok hI n))
theorem iv_lb_ok {I : List iv_I} {a : iv_E} (hI : iv_hI L xs ρ ms I) (h : iv_i64 (iv_e L xs ρ ms a)) : iv_lb I a ≤ iv_e L xs ρ ms a := by
  unfold iv_lb
  split
  · next l e => exact (iv_rng_ok hI 7 a).1 l e
  · exact h.1
theorem iv_ub_ok {I : List iv_I} {a : iv_E} (hI : iv_hI L xs ρ ms I) (h : iv_i64 (iv_e L xs ρ ms a)) : iv_e L xs ρ ms a ≤ iv_ub I a := by
  unfold iv_ub
  split
  · next l e => exact (iv_rng_ok hI 7 a).2 l e
  · exact h.2
theorem iv_sure_ok {c : Nat} {la ua lb ub a b : Int} {q : Bool} (h : iv_sure c la ua lb ub q = true) (h1 : la ≤ a) (h2 : a ≤ ua) (h3 : lb ≤ b) (h4 : b ≤ ub) (hq : q = true → a = b) : iv_ci c a b := by
  unfold iv_sure at h
  simp only [iv_lt, iv_le] at h
  split at h
  · have h := of_decide_eq_true h
    show a < b
    omega
  · have h := of_decide_eq_true h
    show a ≤ b
    omega
  · have h := of_decide_eq_true h
    show a > b
    omega
  · have h := of_decide_eq_true h
    show a ≥ b
    omega
  · show a = b
    rw [Bool.or_eq_true, Bool.and_eq_true, decide_eq_true_eq, decide_eq_true_eq] at h
    rcases h with h | h
    · exact hq h
    · omega
  · show a ≠ b
    rw [Bool.or_eq_true, decide_eq_true_eq, decide_eq_true_eq] at h
    omega
  · show 0 ≤ a ∧ a < b
    rw [Bool.and_eq_true, decide_eq_true_eq, decide_eq_true_eq] at h
    omega
  · show ¬ (0 ≤ a ∧ a < b)
    rw [Bool.or_eq_true, decide_eq_true_eq, decide_eq_true_eq] at h
    omega
  · cases h
theorem iv_any_ok {I : List iv_I} {c : Nat} {a b : iv_E} (hI : iv_hI L xs ρ ms I) (h : I.any (iv_same c a b) = true) : iv_ci c (iv_e L xs ρ ms a) (iv_e L xs ρ ms b) := by
  obtain ⟨e, h1, h2⟩ := List.any_eq_true.mp h
  unfold iv_same at h2
  rw [Bool.and_eq_true, Bool.and_eq_true] at h2
  have := hI e h1
  rw [Nat.eq_of_beq_eq_true h2.1, iv_eq_ok h2.2.1, iv_eq_ok h2.2.2] at this
  exact this
theorem iv_dec_ok {I : List iv_I} {c : Nat} {a b : iv_E} (hI : iv_hI L xs ρ ms I) (ha : iv_i64 (iv_e L xs ρ ms a)) (hb : iv_i64 (iv_e L xs ρ ms b)) : (iv_dec I c a b = 1 → iv_ci c (iv_e L xs ρ ms a) (iv_e L xs ρ ms b)) ∧ (iv_dec I c a b = 2 → iv_ci (iv_neg c) (iv_e L xs ρ ms a) (iv_e L xs ρ ms b)) := by
  have key : ∀ c, (iv_sure c (iv_lb I a) (iv_ub I a) (iv_lb I b) (iv_ub I b) (iv_eq a b) || I.any (iv_same c a b)) = true → iv_ci c (iv_e L xs ρ ms a) (iv_e L xs ρ ms b) := by
    intro c h
    rw [Bool.or_eq_true] at h
    rcases h with h | h
    · exact iv_sure_ok h (iv_lb_ok hI ha) (iv_ub_ok hI ha) (iv_lb_ok hI hb) (iv_ub_ok hI hb) (fun q => by rw [iv_eq_ok q])
    · exact iv_any_ok hI h
  constructor
  · intro h
    unfold iv_dec at h
    split at h
    · next q => exact key c q
    · split at h <;> cases h
  · intro h
    unfold iv_dec at h
    split at h
    · cases h
    · split at h
      · next q => exact key _ q
      · cases h
theorem iv_ci_not {c : Nat} {a b : Int} (h : iv_ci (iv_neg c) a b) : ¬ iv_ci c a b := by
  match c, h with
  | 0, h => exact Int.not_lt.mpr h
  | 1, h => exact Int.not_le.mpr h
  | 2, h => exact Int.not_lt.mpr h
  | 3, h => exact Int.not_le.mpr h
  | 4, h => exact h
  | 5, h => exact fun q => q h
  | 6, h => exact h
  | n + 7, h => exact fun q => q h
theorem iv_hI_cons {I : List iv_I} (hI : iv_hI L xs ρ ms I) {c : Nat} {a b : iv_E} (h : iv_ci c (iv_e L xs ρ ms a) (iv_e L xs ρ ms b)) : iv_hI L xs ρ ms ((c, a, b) :: I) := by
  intro e he
  rcases List.mem_cons.mp he with rfl | he
  · exact h
  · exact hI e he
end IVI
theorem iv_catK_eq {α β : Type} : ∀ (a b : List α) (k : List α → β), iv_catK a b k = k (a ++ b)
  | [], _, _ => rfl
  | h :: t, b, k => by unfold iv_catK; rw [iv_catK_eq t b]; rfl
theorem iv_both_ok {a b : iv_R} {l : List (iv_S ⊕ iv_L)} (h : iv_both a b = some l) : ∃ x y, a = some x ∧ b = some y ∧ l = x ++ y := by
  unfold iv_both at h
  split at h
  · next x y =>
    rw [iv_catK_eq] at h
    cases h
    exact ⟨x, y, rfl, rfl, rfl⟩
  · cases h
theorem iv_zK_eq {β : Type} (z : Int) (k : Int → β) : iv_zK z k = k z := by
  unfold iv_zK
  split
  · rw [sx_nK_eq]
  · rw [sx_nK_eq]
theorem iv_num_eq {β : Type} (z : Int) (k : iv_E → β) : iv_num z k = k (.nest z .nil) := by unfold iv_num; rw [iv_zK_eq]
section IVJ
variable {L : Nat} {xs : Nat → Int32} {ρ : List Int} {ms : List iv_M}
/-- a comparison: the way that is gone -/
theorem iv_cmp_ok {I : List iv_I} {c : Nat} {a b : iv_E} {kt kf : List iv_I → iv_R} {l : List (iv_S ⊕ iv_L)} {G : iv_S ⊕ iv_L → Prop} (h : iv_cmp I c a b kt kf = some l) (hG : ∀ x ∈ l, G x) (hI : iv_hI L xs ρ ms I) (ha : iv_i64 (iv_e L xs ρ ms a)) (hb : iv_i64 (iv_e L xs ρ ms b)) : (iv_ci c (iv_e L xs ρ ms a) (iv_e L xs ρ ms b) → ∃ I' l', kt I' = some l' ∧ (∀ x ∈ l', G x) ∧ iv_hI L xs ρ ms I') ∧ (¬ iv_ci c (iv_e L xs ρ ms a) (iv_e L xs ρ ms b) → ∃ I' l', kf I' = some l' ∧ (∀ x ∈ l', G x) ∧ iv_hI L xs ρ ms I') := by
  have hd := iv_dec_ok (c := c) hI ha hb
  unfold iv_cmp at h
  split at h
  · next e => exact ⟨fun _ => ⟨_, _, h, hG, hI⟩, fun q => absurd (hd.1 e) q⟩
  · next e => exact ⟨fun q => absurd q (iv_ci_not (hd.2 e)), fun _ => ⟨_, _, h, hG, hI⟩⟩
  · obtain ⟨x, y, h1, h2, rfl⟩ := iv_both_ok h
    exact ⟨fun q => ⟨_, _, h1, fun z hz => hG z (List.mem_append.mpr (Or.inl hz)), iv_hI_cons hI q⟩, fun q => ⟨_, _, h2, fun z hz => hG z (List.mem_append.mpr (Or.inr hz)), iv_hI_cons hI (iv_neg_ok q)⟩⟩
theorem iv_num_i64 {z : Int} (h : iv_i64 z) : iv_i64 (iv_e L xs ρ ms (.nest z .nil)) := by rw [iv_e_num]; exact h
/-- values of expressions -/
theorem iv_bin_ok {β : Type} {o : Nat} {a b : iv_E} {k : iv_E → β} (h1 : o ≠ 40) (h2 : o ≠ 43) : ∃ e, iv_bin o a b k = k e ∧ iv_e L xs ρ ms e = iv_op o (iv_e L xs ρ ms a) (iv_e L xs ρ ms b) := by
  unfold iv_bin
  split
  · exact ⟨_, iv_num_eq _ _, by rw [iv_e_num, iv_e_num, iv_e_num]⟩
  · exact ⟨_, rfl, iv_e_op h1 h2 _ _⟩
theorem iv_un_ok {β : Type} {o : Nat} {a : iv_E} {k : iv_E → β} (h1 : o ≠ 40) (h2 : o ≠ 43) : ∃ e, iv_un o a k = k e ∧ iv_e L xs ρ ms e = iv_op o (iv_e L xs ρ ms a) 0 := by
  unfold iv_un
  split
  · exact ⟨_, iv_num_eq _ _, by rw [iv_e_num, iv_e_num]⟩
  · exact ⟨_, rfl, by rw [iv_e_op h1 h2, iv_e_num]⟩
theorem iv_pad_ok {β : Type} {a : iv_E} {c : Int} {k : iv_E → β} : ∃ e, iv_pad a c k = k e ∧ iv_e L xs ρ ms e = iv_e L xs ρ ms a + c := by
  unfold iv_pad
  split
  · exact ⟨_, iv_num_eq _ _, by rw [iv_e_num, iv_e_num]⟩
  · next x y =>
    refine ⟨_, iv_zK_eq _ _, ?_⟩
    rw [iv_e_op (by decide) (by decide), iv_e_op (by decide) (by decide), iv_e_num, iv_e_num]
    show _ + (y + c) = _ + y + c
    omega
  · split
    · next e => exact ⟨_, rfl, by rw [e, Int.add_zero]⟩
    · refine ⟨_, rfl, ?_⟩
      rw [iv_e_op (by decide) (by decide), iv_e_num]
      rfl
def iv_ex (o : Nat) (x y : Int) : Int := match o with
  | 1 => x + y
  | 2 => x - y
  | _ => x * y
theorem iv_xK_ok {β : Type} {o : Nat} {a b : iv_E} {k : iv_E → β} {kn : β} : iv_xK o a b k kn = kn ∨ ((o = 1 ∨ o = 2 ∨ o = 3) ∧ ∃ e, iv_xK o a b k kn = k e ∧ iv_e L xs ρ ms e = iv_ex o (iv_e L xs ρ ms a) (iv_e L xs ρ ms b)) := by
  unfold iv_xK
  split
  · refine Or.inr ⟨Or.inl rfl, ?_⟩
    split
    · obtain ⟨e, h1, h2⟩ := iv_pad_ok (L := L) (xs := xs) (ρ := ρ) (ms := ms) (k := k)
      exact ⟨e, h1, by rw [h2, iv_e_num]; exact Int.add_comm _ _⟩
    · obtain ⟨e, h1, h2⟩ := iv_pad_ok (L := L) (xs := xs) (ρ := ρ) (ms := ms) (k := k)
      exact ⟨e, h1, by rw [h2, iv_e_num]; rfl⟩
    · exact ⟨_, rfl, iv_e_op (by decide) (by decide) _ _⟩
  · refine Or.inr ⟨Or.inr (Or.inl rfl), ?_⟩
    split
    · next y =>
      obtain ⟨e, h1, h2⟩ := iv_pad_ok (L := L) (xs := xs) (ρ := ρ) (ms := ms) (a := a) (c := -y) (k := k)
      refine ⟨e, by rw [iv_zK_eq]; exact h1, ?_⟩
      rw [h2, iv_e_num]
      show _ = _ - y
      omega
    · refine ⟨_, rfl, ?_⟩
      rw [iv_e_op (by decide) (by decide), iv_e_op (by decide) (by decide), iv_e_num]
      show _ + _ * (-1) = _ - _
      omega
  · split
    · refine Or.inr ⟨Or.inr (Or.inr rfl), _, rfl, ?_⟩
      rw [iv_e_op (by decide) (by decide), iv_e_num]
      exact Int.mul_comm _ _
    · refine Or.inr ⟨Or.inr (Or.inr rfl), _, rfl, ?_⟩
      rw [iv_e_op (by decide) (by decide), iv_e_num]
      rfl
    · exact Or.inl rfl
  · exact Or.inl rfl
theorem iv_fits_ok {I : List iv_I} {e : iv_E} (hI : iv_hI L xs ρ ms I) (h : iv_fits I e = true) : iv_w (iv_e L xs ρ ms e) = iv_e L xs ρ ms e := by
  have hr := iv_rng_ok hI 7 e
  unfold iv_fits at h
  split at h
  · next l u eq =>
    rw [eq] at hr
    rw [Bool.and_eq_true] at h
    have h1 : -2147483648 ≤ l := of_decide_eq_true h.1
    have h2 : u ≤ 2147483647 := of_decide_eq_true h.2
    have h3 := hr.1 l rfl
    have h4 := hr.2 u rfl
    exact iv_w_id (by omega) (by omega)
  · cases h
theorem iv_binI_ok {β : Type} {I : List iv_I} (hI : iv_hI L xs ρ ms I) {o : Nat} {a b : iv_E} {k : iv_E → β} (h1 : o ≠ 40) (h2 : o ≠ 43) : ∃ e, iv_binI I o a b k = k e ∧ iv_e L xs ρ ms e = iv_op o (iv_e L xs ρ ms a) (iv_e L xs ρ ms b) := by
  unfold iv_binI
  split
  · exact ⟨_, iv_num_eq _ _, by rw [iv_e_num, iv_e_num, iv_e_num]⟩
  · rcases iv_xK_ok (L := L) (xs := xs) (ρ := ρ) (ms := ms) (o := o) (a := a) (b := b) (k := iv_fitK I k (.tag o (.append a b))) (kn := k (.tag o (.append a b))) with h | ⟨ho, e, h3, h4⟩
    · exact ⟨_, h, iv_e_op h1 h2 _ _⟩
    · rw [h3]
      unfold iv_fitK
      split
      · next hf =>
        have hw := iv_fits_ok hI hf
        refine ⟨e, rfl, ?_⟩
        rw [h4] at hw ⊢
        rcases ho with rfl | rfl | rfl <;> exact hw.symm
      · exact ⟨_, rfl, iv_e_op h1 h2 _ _⟩
theorem iv_elt_ok {β : Type} {p j : iv_E} {off stride : Int} {k : iv_E → β} : ∃ e, iv_elt p j off stride k = k e ∧ iv_e L xs ρ ms e = iv_e L xs ρ ms p + off + stride * iv_e L xs ρ ms j := by
  unfold iv_elt
  obtain ⟨q, h1, h2⟩ := iv_pad_ok (L := L) (xs := xs) (ρ := ρ) (ms := ms) (a := p) (c := off) (k := iv_elK j stride k)
  rw [h1]
  unfold iv_elK
  split
  · next x =>
    rw [iv_zK_eq]
    obtain ⟨e, h3, h4⟩ := iv_pad_ok (L := L) (xs := xs) (ρ := ρ) (ms := ms) (a := q) (c := x * stride) (k := k)
    exact ⟨e, h3, by rw [h4, h2, iv_e_num, Int.mul_comm]⟩
  · split
    · next e =>
      refine ⟨_, rfl, ?_⟩
      rw [iv_e_op (by decide) (by decide), h2, e, Int.one_mul]
      exact Int.add_comm _ _
    · refine ⟨_, rfl, ?_⟩
      rw [iv_e_op (by decide) (by decide), iv_e_op (by decide) (by decide), h2, iv_e_num]
      show _ * stride + _ = _
      rw [Int.mul_comm, Int.add_comm]
theorem iv_rd_ok {β : Type} {W : List (List iv_E)} {p s : iv_E} {k : iv_E → β} : iv_rd W p s k = k (.nest (.ofNat W.length) (.append p s)) := by unfold iv_rd; rw [sx_nK_eq]
/-- what reads of the first memories alone stays, whatever comes behind -/
theorem iv_wf_ok {n : Nat} {ms' : List iv_M} (hn : n < ms.length) : ∀ {e : iv_E}, iv_wf n e = true → iv_e L xs ρ (ms ++ ms') e = iv_e L xs ρ ms e := by
  have hg : ∀ {j : Nat}, j ≤ n → (ms ++ ms').getD j (fun _ _ => 0) = ms.getD j (fun _ _ => 0) := by
    intro j hj
    rw [List.getD_eq_getElem?_getD, List.getD_eq_getElem?_getD, List.getElem?_append_left (by omega)]
  intro e
  fun_induction iv_wf n e with
  | case1 c => intro _; rw [iv_e_num, iv_e_num]
  | case2 o => intro _; simp [iv_e]
  | case3 j p s ih1 ih2 =>
    intro h
    rw [Bool.and_eq_true, Bool.and_eq_true] at h
    rw [iv_e_rd, iv_e_rd, ih1 h.2.1, ih2 h.2.2, show (Int.ofNat j).toNat = j from rfl, hg (Nat.le_of_ble_eq_true h.1)]
  | case4 o a b ih1 ih2 =>
    intro h
    rw [Bool.and_eq_true] at h
    by_cases h40 : o = 40
    · subst h40
      rw [iv_e_40, iv_e_40, ih1 h.1, ih2 h.2]
    · by_cases h43 : o = 43
      · subst h43
        rw [iv_e_43, iv_e_43, ih1 h.1]
      · rw [iv_e_op h40 h43, iv_e_op h40 h43, ih1 h.1, ih2 h.2]
  | case5 => intro h; cases h
end IVJ
theorem iv_lop_ok {o w : Nat} {ins : Instr} (h : iv_ol ins = some (o, w)) {a b : Int} (ha : iv_i64 a) (hb : w = 0 → iv_i32 b) (hb2 : w = 1 → iv_i64 b) : (o ≠ 40 ∧ o ≠ 43) ∧ iv_i64 (iv_op o a b) ∧ ∀ (nL pc : Nat) (lc : List (Nat × Value)) (r : List Value), mm_pure nL ins 1 pc lc (iv_cv w b :: .long (Int64.ofInt a) :: r) = some (pc + 1, lc, .long (Int64.ofInt (iv_op o a b)) :: r) ∧ (w = 0 ∨ w = 1) := by
  have key : ∀ (z : Int) (x : Int64), z = x.toInt → Int64.ofInt z = x ∧ iv_i64 z := fun z x e => by
    subst e
    exact ⟨Int64.ofInt_toInt x, iv_t64 x⟩
  unfold iv_ol at h
  split at h
  · cases h
    obtain ⟨k1, k2⟩ := key (iv_w64 (a + b)) (Int64.ofInt a + Int64.ofInt b) (by rw [← Int64.ofInt_add]; rfl)
    exact ⟨by decide, k2, fun nL pc lc r => ⟨by rw [show iv_op 21 a b = iv_w64 (a + b) from rfl, k1]; rfl, Or.inr rfl⟩⟩
  · cases h
    obtain ⟨k1, k2⟩ := key (iv_w64 (a - b)) (Int64.ofInt a - Int64.ofInt b) (by rw [← Int64.ofInt_sub]; rfl)
    exact ⟨by decide, k2, fun nL pc lc r => ⟨by rw [show iv_op 22 a b = iv_w64 (a - b) from rfl, k1]; rfl, Or.inr rfl⟩⟩
  · cases h
    obtain ⟨k1, k2⟩ := key (iv_land a b) _ rfl
    exact ⟨by decide, k2, fun nL pc lc r => ⟨by rw [show iv_op 23 a b = iv_land a b from rfl, k1]; rfl, Or.inr rfl⟩⟩
  · cases h
    obtain ⟨k1, k2⟩ := key (iv_lor a b) _ rfl
    exact ⟨by decide, k2, fun nL pc lc r => ⟨by rw [show iv_op 24 a b = iv_lor a b from rfl, k1]; rfl, Or.inr rfl⟩⟩
  · cases h
    obtain ⟨k1, k2⟩ := key (iv_lshl a b) _ rfl
    exact ⟨by decide, k2, fun nL pc lc r => ⟨by rw [show iv_op 25 a b = iv_lshl a b from rfl, k1]; rfl, Or.inl rfl⟩⟩
  · cases h
    obtain ⟨k1, k2⟩ := key (iv_lshr a b) _ rfl
    exact ⟨by decide, k2, fun nL pc lc r => ⟨by rw [show iv_op 26 a b = iv_lshr a b from rfl, k1]; rfl, Or.inl rfl⟩⟩
  · cases h
    obtain ⟨k1, k2⟩ := key (iv_lushr a b) _ rfl
    exact ⟨by decide, k2, fun nL pc lc r => ⟨by rw [show iv_op 27 a b = iv_lushr a b from rfl, k1]; rfl, Or.inl rfl⟩⟩
  · cases h
