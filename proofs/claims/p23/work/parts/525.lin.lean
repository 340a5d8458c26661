/-! ===== runs from cut to cut: sums of unknowns ===== -/
theorem se_zK_eq {β : Type} (z : Int) (k : Int → β) : se_zK z k = k z := by
  unfold se_zK
  split <;> rw [sx_nK_eq]
theorem se_vK_eq {β : Type} (a : Int) (u : Nat) (c : Int) (k : se_V → β) : se_vK a u c k = k (a, u, c) := by
  unfold se_vK
  rw [se_zK_eq, sx_nK_eq, se_zK_eq]
theorem se_new_eq (ds : List se_D) (kd : Nat) (l h : Int) (o : Nat) (x y : se_V) (k : List se_D → se_V → se_R) : se_new ds kd l h o x y k = k (ds ++ [((kd, l, h), o, x, y)]) (1, ds.length, 0) := by
  unfold se_new
  rw [se_zK_eq, se_zK_eq, sx_nK_eq, sx_appK_eq]
theorem se_con_eq (x : Int32) (k : se_V → se_R) : se_con x k = k (0, 0, x.toInt) := by
  unfold se_con
  rw [se_zK_eq]
theorem se_v_i (ρ : List Value) (x : Int32) : se_v ρ (0, 0, x.toInt) = some (.int x) := by
  rw [se_v_c, Int32.ofInt_toInt]
abbrev se_P : Type := List (Jvm.ClassFile.Cond × se_V × se_V)
/-- an op on values: those on longs beside the ints' -/
def se_opv (o : Nat) (va vb : Value) : Option Value := match va, vb with
  | .int a, .int b => if o = 20 then some (.long a.toInt64) else some (.int (se_op o a b))
  | .long a, .long b => if o = 21 then some (.long (a + b)) else if o = 22 then some (.int (lg_cmp a b)) else none
  | _, _ => none
section SEF
variable (ty : Nat → Option Nat)
def se_dok (ρ : List Value) (d : se_D) (w : Value) : Prop := se_k ty d.1 w ∧ (d.2.1 ≠ 0 → ∃ va vb, se_v ρ d.2.2.1 = some va ∧ se_v ρ d.2.2.2 = some vb ∧ se_opv d.2.1 va vb = some w)
def se_env (ρ : List Value) (ds : List se_D) : Prop := ρ.length = ds.length ∧ ∀ (k : Nat) (d : se_D), ds[k]? = some d → ∃ w, ρ[k]? = some w ∧ se_dok ty ρ d w
end SEF
def se_pf (ρ : List Value) (P : se_P) : Prop := ∀ e ∈ P, ∃ a b, se_v ρ e.2.1 = some (.int a) ∧ se_v ρ e.2.2 = some (.int b) ∧ mm_P2 e.1 a b = true
section SEG
variable {ty : Nat → Option Nat} {ρ : List Value} {ds : List se_D}
/-- a value's kind says what it is -/
theorem se_kd_at (h : se_env ty ρ ds) {v : se_V} {x : Value} (hx : se_v ρ v = some x) : (v.1 = 0 ∧ se_kd ds v = 0 ∧ x = .int (Int32.ofInt v.2.2)) ∨ (v.1 ≠ 0 ∧ ∃ d w, ds[v.2.1]? = some d ∧ ρ[v.2.1]? = some w ∧ se_kd ds v = d.1.1 ∧ se_dok ty ρ d w) := by
  by_cases e : v.1 = 0
  · refine Or.inl ⟨e, ?_, ?_⟩
    · unfold se_kd; rw [if_pos e]
    · unfold se_v at hx; rw [if_pos e] at hx; cases hx; rfl
  · refine Or.inr ⟨e, ?_⟩
    unfold se_v at hx
    rw [if_neg e] at hx
    have hk : v.2.1 < ρ.length := by
      apply Classical.byContradiction
      intro q
      rw [List.getElem?_eq_none (by omega)] at hx
      cases hx
    have hk2 : v.2.1 < ds.length := by rw [← h.1]; exact hk
    obtain ⟨w, h1, h2⟩ := h.2 v.2.1 ds[v.2.1] (List.getElem?_eq_getElem hk2)
    refine ⟨_, w, List.getElem?_eq_getElem hk2, h1, ?_, h2⟩
    unfold se_kd
    rw [if_neg e, List.getElem?_eq_getElem hk2]
theorem se_int (h : se_env ty ρ ds) {v : se_V} {x : Value} (hx : se_v ρ v = some x) (hk : se_kd ds v = 0) : ∃ n : Int32, x = .int n ∧ (se_rg ds v).1 ≤ n.toInt ∧ n.toInt ≤ (se_rg ds v).2 := by
  rcases se_kd_at h hx with ⟨e, _, rfl⟩ | ⟨e, d, w, h1, h2, h3, h4⟩
  · refine ⟨_, rfl, ?_⟩
    unfold se_rg
    rw [if_pos e]
    exact se_fit_ok (Int.le_refl _) (Int.le_refl _)
  · rw [h3] at hk
    have hw := h4.1
    unfold se_k at hw
    rw [hk] at hw
    obtain ⟨n, rfl, a1, a2⟩ := hw
    unfold se_v at hx
    rw [if_neg e, h2] at hx
    cases hx
    refine ⟨_, rfl, ?_⟩
    unfold se_rg
    rw [if_neg e, h1]
    dsimp only
    split
    · next q =>
      have q := se_le_iff.mp q
      exact se_fit_ok (Int.add_le_add_right (Int.mul_le_mul_of_nonneg_left a1 q) _) (Int.add_le_add_right (Int.mul_le_mul_of_nonneg_left a2 q) _)
    · next q =>
      have q : v.1 ≤ 0 := by
        apply Classical.byContradiction
        intro z
        exact q (se_le_iff.mpr (by omega))
      exact se_fit_ok (Int.add_le_add_right (Int.mul_le_mul_of_nonpos_left q a2) _) (Int.add_le_add_right (Int.mul_le_mul_of_nonpos_left q a1) _)
theorem se_long (h : se_env ty ρ ds) {v : se_V} {x : Value} (hx : se_v ρ v = some x) (hk : se_kd ds v = 1) : ∃ n : Int64, x = .long n := by
  rcases se_kd_at h hx with ⟨e, q, rfl⟩ | ⟨e, d, w, h1, h2, h3, h4⟩
  · rw [q] at hk; cases hk
  · rw [h3] at hk
    have hw := h4.1
    unfold se_k at hw
    rw [hk] at hw
    obtain ⟨n, rfl⟩ := hw
    unfold se_v at hx
    rw [if_neg e, h2] at hx
    cases hx
    exact ⟨n, rfl⟩
theorem se_ref (h : se_env ty ρ ds) {v : se_V} {x : Value} (hx : se_v ρ v = some x) {t : Nat} (hk : se_kd ds v = t + 2) : ∃ q : Nat, x = .ref q ∧ ty q = some t := by
  rcases se_kd_at h hx with ⟨e, q, rfl⟩ | ⟨e, d, w, h1, h2, h3, h4⟩
  · rw [q] at hk; cases hk
  · rw [h3] at hk
    have hw := h4.1
    unfold se_k at hw
    rw [hk] at hw
    obtain ⟨n, rfl, hn⟩ := hw
    unfold se_v at hx
    rw [if_neg e, h2] at hx
    cases hx
    exact ⟨n, rfl, hn⟩
theorem se_isInt (h : se_env ty ρ ds) {v : se_V} {n : Int32} (hx : se_v ρ v = some (.int n)) : se_kd ds v = 0 := by
  match hk : se_kd ds v with
  | 0 => rfl
  | 1 => obtain ⟨m, e⟩ := se_long h hx hk; cases e
  | t + 2 => obtain ⟨m, e, _⟩ := se_ref h hx hk; cases e
theorem se_isRef (h : se_env ty ρ ds) {v : se_V} {q : Nat} (hx : se_v ρ v = some (.ref q)) : ∃ t, se_kd ds v = t + 2 ∧ ty q = some t := by
  match hk : se_kd ds v with
  | 0 => obtain ⟨m, e, _⟩ := se_int h hx hk; cases e
  | 1 => obtain ⟨m, e⟩ := se_long h hx hk; cases e
  | t + 2 => obtain ⟨m, e, h2⟩ := se_ref h hx hk; cases e; exact ⟨t, rfl, h2⟩
end SEG
def se_raw (ds : List se_D) (v : se_V) : Int × Int := if v.1 = 0 then (v.2.2, v.2.2) else match ds[v.2.1]? with
  | some d => if se_le 0 v.1 then (v.1 * d.1.2.1 + v.2.2, v.1 * d.1.2.2 + v.2.2) else (v.1 * d.1.2.2 + v.2.2, v.1 * d.1.2.1 + v.2.2)
  | none => (se_lo - 1, se_hi + 1)
/-- an int that doesn't wrap -/
def se_okv (ds : List se_D) (v : se_V) : Bool := Nat.beq (se_kd ds v) 0 && (match se_raw ds v with
  | (l, h) => se_in l h)
def se_val (ρ : List Value) (k : Nat) : Int := match ρ[k]? with
  | some (.int x) => x.toInt
  | some (.long x) => x.toInt
  | _ => 0
def se_lv (ρ : List Value) (v : se_V) : Int := v.1 * se_val ρ v.2.1 + v.2.2
abbrev se_L : Type := List (Nat × Int)
def se_fv (ρ : List Value) : se_L → Int → Int
  | [], c => c
  | (k, m) :: t, c => m * se_val ρ k + se_fv ρ t c
def se_addc {β : Type} (L : se_L) (i : Nat) (m : Int) (k : se_L → β) : β := match L with
  | [] => sx_nK i (fun i => se_zK m (fun m => k [(i, m)]))
  | (j, n) :: t => if Nat.beq j i then se_zK (n + m) (fun m => k ((j, m) :: t)) else se_addc t i m (fun t => k ((j, n) :: t))
/-- a sum or difference that doesn't wrap -/
def se_exa (ds : List se_D) (o : Nat) (x y : se_V) : Bool := (Nat.beq o 1 || Nat.beq o 2) && ((se_okv ds x && se_okv ds y) && (match se_raw ds x, se_raw ds y with
  | (l1, h1), (l2, h2) => if Nat.beq o 1 then se_in (l1 + l2) (h1 + h2) else se_in (l1 - h2) (h1 - l2)))
def se_lin {β : Type} (ds : List se_D) (n : Nat) (v : se_V) (m : Int) (L : se_L) (c : Int) (k : se_L → Int → β) : β := match n with
  | 0 => se_zK (c + m * v.2.2) (fun c => if v.1 = 0 then k L c else se_addc L v.2.1 (m * v.1) (fun L => k L c))
  | n + 1 => se_zK (c + m * v.2.2) (fun c => if v.1 = 0 then k L c else match ds[v.2.1]? with
    | some (_, o, x, y) => if se_exa ds o x y then
          se_zK (m * v.1) (fun m => se_lin ds n x m L c (fun L c => se_lin ds n y (if Nat.beq o 1 then m else -m) L c k))
        else se_addc L v.2.1 (m * v.1) (fun L => k L c)
    | none => se_addc L v.2.1 (m * v.1) (fun L => k L c))
/-- of a long that is a sum of ints -/
def se_liL (ds : List se_D) (n : Nat) (v : se_V) (m : Int) (L : se_L) (c : Int) (k : se_L → Int → Bool) : Bool := match n with
  | 0 => false
  | n + 1 => if v.1 = 1 then match ds[v.2.1]? with
    | some ((kd, _, _), o, x, y) => if Nat.beq kd 1 then (if Nat.beq o 20 then (if se_okv ds x then se_lin ds 4 x m L c k else false) else if Nat.beq o 21 then se_liL ds n x m L c (fun L c => se_liL ds n y m L c k) else false) else false
    | none => false
    else false
def se_hio (ds : List se_D) : se_L → Int → (Int → Bool) → Bool
  | [], c, k => k c
  | (i, m) :: t, c, k => match ds[i]? with
    | some d => if Nat.beq d.1.1 0 then se_zK (c + (if se_le 0 m then m * d.1.2.2 else m * d.1.2.1)) (fun c => se_hio ds t c k) else false
    | none => false
def se_l0 (ds : List se_D) (L : se_L) (c : Int) : Bool := se_hio ds L c (fun h => se_le h 0)
/-- a fact (something is at most 0) taken off a sum -/
def se_dif (ds : List se_D) (x y : se_V) (d : Int) (L : se_L) (c : Int) (k : se_L → Int → Bool) : Bool := if se_okv ds x && se_okv ds y then se_lin ds 4 x (-1) L (c - d) (fun L c => se_lin ds 4 y 1 L c k) else false
def se_fct (ds : List se_D) (e : Jvm.ClassFile.Cond × se_V × se_V) (L : se_L) (c : Int) (k : se_L → Int → Bool) : Bool := match e with
  | (.le, x, y) => se_dif ds x y 0 L c k || (if y.1 = 0 ∧ y.2.2 = 0 ∧ x.1 = 1 ∧ x.2.2 = 0 then match ds[x.2.1]? with
    | some (_, o, a, b) => if Nat.beq o 22 then se_liL ds 3 a (-1) L c (fun L c => se_liL ds 3 b 1 L c k) else false
    | none => false else false)
  | (.lt, x, y) => se_dif ds x y 1 L c k
  | (.ge, x, y) => se_dif ds y x 0 L c k
  | (.gt, x, y) => se_dif ds y x 1 L c k
  | (.eq, x, y) => se_dif ds x y 0 L c k || se_dif ds y x 0 L c k
  | (.ne, _, _) => false
/-- x + d is at most y, surely -/
def se_lub (ds : List se_D) (P : se_P) (x y : se_V) (d : Int) : Bool := if se_okv ds x && se_okv ds y then se_lin ds 4 x 1 [] d (fun L c => se_lin ds 4 y (-1) L c (fun L c => se_l0 ds L c || P.any (fun e => se_fct ds e L c (fun L c => se_l0 ds L c)) || P.any (fun e => se_fct ds e L c (fun L c => P.any (fun e => se_fct ds e L c (fun L c => se_l0 ds L c)))))) else false
/-- a sum is at most 0, by ranges and up to two facts -/
def se_lc0 (ds : List se_D) (P : se_P) (L : se_L) (c : Int) : Bool := se_l0 ds L c || P.any (fun e => se_fct ds e L c (fun L c => se_l0 ds L c)) || P.any (fun e => se_fct ds e L c (fun L c => P.any (fun e => se_fct ds e L c (fun L c => se_l0 ds L c))))
/-- of longs that are sums of ints: x + d is at most y, surely -/
def se_lubL (ds : List se_D) (P : se_P) (x y : se_V) (d : Int) : Bool := se_liL ds 3 x 1 [] d (fun L c => se_liL ds 3 y (-1) L c (fun L c => se_lc0 ds P L c))
/-- how two longs compare, as far as it is known -/
def se_lcK (ds : List se_D) (P : se_P) (v w : se_V) (k : List se_D → se_V → se_R) : se_R := match se_lubL ds P v w 0 with
  | true => se_new ds 0 (-1) 0 22 v w k
  | false => match se_lubL ds P w v 1 with
    | true => se_new ds 0 1 1 22 v w k
    | false => se_new ds 0 (-1) 1 22 v w k
section SEL
variable {ty : Nat → Option Nat} {ρ : List Value} {ds : List se_D}
theorem se_val_i {k : Nat} {x : Int32} (h : ρ[k]? = some (.int x)) : se_val ρ k = x.toInt := by unfold se_val; rw [h]
theorem se_val_l {k : Nat} {x : Int64} (h : ρ[k]? = some (.long x)) : se_val ρ k = x.toInt := by unfold se_val; rw [h]
theorem se_raw_ok (he : se_env ty ρ ds) {v : se_V} {x : Int32} (hx : se_v ρ v = some (.int x)) : (se_raw ds v).1 ≤ se_lv ρ v ∧ se_lv ρ v ≤ (se_raw ds v).2 ∧ x = Int32.ofInt (se_lv ρ v) := by
  unfold se_raw se_lv
  rcases se_kd_at he hx with ⟨e, _, q⟩ | ⟨e, d, w, h1, h2, h3, h4⟩
  · cases q
    rw [if_pos e, e, Int.zero_mul, Int.zero_add]
    exact ⟨Int.le_refl _, Int.le_refl _, rfl⟩
  · have hk := se_isInt he hx
    rw [h3] at hk
    have hw := h4.1
    unfold se_k at hw
    rw [hk] at hw
    obtain ⟨n, rfl, a1, a2⟩ := hw
    unfold se_v at hx
    rw [if_neg e, h2] at hx
    cases hx
    rw [if_neg e, h1, se_val_i h2]
    dsimp only
    split
    · next q =>
      have q := se_le_iff.mp q
      exact ⟨Int.add_le_add_right (Int.mul_le_mul_of_nonneg_left a1 q) _, Int.add_le_add_right (Int.mul_le_mul_of_nonneg_left a2 q) _, rfl⟩
    · next q =>
      have q : v.1 ≤ 0 := by
        apply Classical.byContradiction
        intro z
        exact q (se_le_iff.mpr (by omega))
      exact ⟨Int.add_le_add_right (Int.mul_le_mul_of_nonpos_left q a2) _, Int.add_le_add_right (Int.mul_le_mul_of_nonpos_left q a1) _, rfl⟩
theorem se_okv_ok (he : se_env ty ρ ds) {v : se_V} {x : Value} (hx : se_v ρ v = some x) (h : se_okv ds v = true) : ∃ n : Int32, x = .int n ∧ n.toInt = se_lv ρ v ∧ (se_raw ds v).1 ≤ n.toInt ∧ n.toInt ≤ (se_raw ds v).2 := by
  replace h : (Nat.beq (se_kd ds v) 0 && se_in (se_raw ds v).1 (se_raw ds v).2) = true := h
  rw [Bool.and_eq_true] at h
  obtain ⟨n, rfl, _⟩ := se_int he hx (Nat.eq_of_beq_eq_true h.1)
  obtain ⟨a1, a2, a3⟩ := se_raw_ok he hx
  have hin := se_in_iff h.2
  have : n.toInt = se_lv ρ v := by rw [a3, se_ofInt (by omega) (by omega)]
  exact ⟨n, rfl, this, by omega, by omega⟩
theorem se_addc_ok {β : Type} {i : Nat} {m : Int} : ∀ {L : se_L} {k : se_L → β} (c : Int), ∃ L', se_addc L i m k = k L' ∧ se_fv ρ L' c = se_fv ρ L c + m * se_val ρ i
  | [], k, c => ⟨_, by unfold se_addc; rw [sx_nK_eq, se_zK_eq], by show m * se_val ρ i + c = c + m * se_val ρ i; omega⟩
  | (j, n) :: t, k, c => by
    unfold se_addc
    split
    · next e =>
      have e := Nat.eq_of_beq_eq_true e
      subst e
      refine ⟨_, by rw [se_zK_eq], ?_⟩
      show (n + m) * se_val ρ j + se_fv ρ t c = n * se_val ρ j + se_fv ρ t c + m * se_val ρ j
      rw [Int.add_mul]
      omega
    · obtain ⟨L', h1, h2⟩ := se_addc_ok (L := t) (i := i) (m := m) (k := fun t => k ((j, n) :: t)) c
      refine ⟨(j, n) :: L', h1, ?_⟩
      show n * se_val ρ j + se_fv ρ L' c = n * se_val ρ j + se_fv ρ t c + m * se_val ρ i
      rw [h2]
      omega
theorem se_fv_c (L : se_L) (c d : Int) : se_fv ρ L (c + d) = se_fv ρ L c + d := by
  induction L with
  | nil => rfl
  | cons e t ih =>
    obtain ⟨k, m⟩ := e
    show m * se_val ρ k + se_fv ρ t (c + d) = m * se_val ρ k + se_fv ρ t c + d
    rw [ih]
    omega
theorem se_lin_ok {β : Type} (he : se_env ty ρ ds) : ∀ (n : Nat) {v : se_V} {m : Int} {L : se_L} {c : Int} {k : se_L → Int → β}, ∃ L' c', se_lin ds n v m L c k = k L' c' ∧ se_fv ρ L' c' = se_fv ρ L c + m * se_lv ρ v := by
  have base : ∀ {v : se_V} {m : Int} {L : se_L} {c : Int} {k : se_L → Int → β}, v.1 ≠ 0 → ∃ L' c', se_addc L v.2.1 (m * v.1) (fun L => k L (c + m * v.2.2)) = k L' c' ∧ se_fv ρ L' c' = se_fv ρ L c + m * se_lv ρ v := by
    intro v m L c k hv
    obtain ⟨L', h1, h2⟩ := se_addc_ok (ρ := ρ) (L := L) (i := v.2.1) (m := m * v.1) (k := fun L => k L (c + m * v.2.2)) (c + m * v.2.2)
    refine ⟨L', _, h1, ?_⟩
    rw [h2, se_fv_c]
    unfold se_lv
    rw [Int.mul_add, Int.mul_assoc]
    omega
  have cst : ∀ {v : se_V} {m : Int} {L : se_L} {c : Int}, v.1 = 0 → se_fv ρ L (c + m * v.2.2) = se_fv ρ L c + m * se_lv ρ v := by
    intro v m L c hv
    rw [se_fv_c]
    unfold se_lv
    rw [hv, Int.zero_mul, Int.zero_add]
  intro n
  induction n with
  | zero =>
    intro v m L c k
    unfold se_lin
    rw [se_zK_eq]
    split
    · next e => exact ⟨L, _, rfl, cst e⟩
    · next e => exact base e
  | succ n ih =>
    intro v m L c k
    unfold se_lin
    rw [se_zK_eq]
    split
    · next e => exact ⟨L, _, rfl, cst e⟩
    · next e =>
      split
      · next kd o x y hd =>
        split
        · next q =>
          replace q : ((Nat.beq o 1 || Nat.beq o 2) && ((se_okv ds x && se_okv ds y) && (if Nat.beq o 1 then se_in ((se_raw ds x).1 + (se_raw ds y).1) ((se_raw ds x).2 + (se_raw ds y).2) else se_in ((se_raw ds x).1 - (se_raw ds y).2) ((se_raw ds x).2 - (se_raw ds y).1)))) = true := q
          rw [Bool.and_eq_true, Bool.and_eq_true, Bool.and_eq_true, Bool.or_eq_true] at q
          obtain ⟨q1, ⟨q2, q3⟩, q4⟩ := q
          obtain ⟨w, w1, w2⟩ := he.2 _ _ hd
          have ho : o ≠ 0 := by
            intro z
            rw [z] at q1
            rcases q1 with q1 | q1 <;> cases q1
          obtain ⟨va, vb, x1, x2, x3⟩ := w2.2 ho
          dsimp only at x1 x2 x3
          obtain ⟨a, rfl, a1, a2, a3⟩ := se_okv_ok he x1 q2
          obtain ⟨b, rfl, b1, b2, b3⟩ := se_okv_ok he x2 q3
          have hw : se_val ρ v.2.1 = se_lv ρ x + (if Nat.beq o 1 then 1 else -1) * se_lv ρ y := by
            rcases q1 with q1 | q1
            · have q1 := Nat.eq_of_beq_eq_true q1
              subst q1
              have x3 : some (Value.int (a + b)) = some w := x3
              cases x3
              replace q4 : se_in ((se_raw ds x).1 + (se_raw ds y).1) ((se_raw ds x).2 + (se_raw ds y).2) = true := q4
              have q4 := se_in_iff q4
              rw [se_val_i w1, show a + b = Int32.ofInt (a.toInt + b.toInt) by simp, se_ofInt (by omega) (by omega), if_pos (show Nat.beq 1 1 = true from rfl), a1, b1, Int.one_mul]
            · have q1 := Nat.eq_of_beq_eq_true q1
              subst q1
              have x3 : some (Value.int (a - b)) = some w := x3
              cases x3
              replace q4 : se_in ((se_raw ds x).1 - (se_raw ds y).2) ((se_raw ds x).2 - (se_raw ds y).1) = true := q4
              have q4 := se_in_iff q4
              rw [se_val_i w1, show a - b = Int32.ofInt (a.toInt - b.toInt) by simp, se_ofInt (by omega) (by omega), if_neg (by decide), a1, b1]
              omega
          rw [se_zK_eq]
          obtain ⟨L1, c1, g1, g2⟩ := ih (v := x) (m := m * v.1) (L := L) (c := c + m * v.2.2) (k := fun L c => se_lin ds n y (if Nat.beq o 1 then m * v.1 else -(m * v.1)) L c k)
          obtain ⟨L2, c2, g3, g4⟩ := ih (v := y) (m := if Nat.beq o 1 then m * v.1 else -(m * v.1)) (L := L1) (c := c1) (k := k)
          refine ⟨L2, c2, g1.trans g3, ?_⟩
          rw [g4, g2, se_fv_c]
          have : m * se_lv ρ v = m * v.1 * se_lv ρ x + (if Nat.beq o 1 then m * v.1 else -(m * v.1)) * se_lv ρ y + m * v.2.2 := by
            show m * (v.1 * se_val ρ v.2.1 + v.2.2) = _
            rw [hw, Int.mul_add, ← Int.mul_assoc, Int.mul_add]
            split
            · rw [Int.one_mul]
            · rw [Int.neg_mul, Int.one_mul, Int.mul_neg, Int.neg_mul]
          rw [this]
          omega
        · exact base e
      · exact base e
theorem se_liL_ok (he : se_env ty ρ ds) : ∀ (n : Nat), n ≤ 3 → ∀ {v : se_V} {m : Int} {L : se_L} {c : Int} {k : se_L → Int → Bool}, se_liL ds n v m L c k = true → ∃ (L' : se_L) (c' : Int) (w : Int64), k L' c' = true ∧ se_v ρ v = some (.long w) ∧ se_fv ρ L' c' = se_fv ρ L c + m * w.toInt ∧ -(2 ^ (31 + n) : Int) ≤ w.toInt ∧ w.toInt ≤ 2 ^ (31 + n) := by
  intro n
  induction n with
  | zero => intro _ v m L c k h; cases h
  | succ n ih =>
    intro hn v m L c k h
    unfold se_liL at h
    split at h
    · next e1 =>
      split at h
      · next kd _ _ o x y hd =>
        split at h
        · next e2 =>
          have e2 := Nat.eq_of_beq_eq_true e2
          subst e2
          obtain ⟨w, w1, w2⟩ := he.2 _ _ hd
          have hv : se_v ρ v = some w := by
            obtain ⟨lw, rfl⟩ := w2.1
            unfold se_v
            rw [if_neg (by rw [e1]; decide), w1]
          split at h
          · next e3 =>
            have e3 := Nat.eq_of_beq_eq_true e3
            subst e3
            split at h
            · next e4 =>
              obtain ⟨va, vb, x1, x2, x3⟩ := w2.2 (fun z => by cases z)
              dsimp only at x1 x2 x3
              obtain ⟨a, rfl, a1, a2, a3⟩ := se_okv_ok he x1 e4
              have hw : w = .long a.toInt64 := by
                cases vb with
                | int b => exact (Option.some.inj x3).symm
                | _ => cases x3
              subst hw
              obtain ⟨L', c', g1, g2⟩ := se_lin_ok he 4 (v := x) (m := m) (L := L) (c := c) (k := k)
              rw [g1] at h
              have hi := se_i32 a
              unfold se_lo se_hi at hi
              have ht : a.toInt64.toInt = a.toInt := Int32.toInt_toInt64 a
              refine ⟨L', c', _, h, hv, by rw [g2, ht, a1], ?_, ?_⟩
              · rw [ht]
                have : (2 ^ 31 : Int) ≤ 2 ^ (31 + (n + 1)) := by
                  have : (2 : Nat) ^ 31 ≤ 2 ^ (31 + (n + 1)) := Nat.pow_le_pow_right (by decide) (by omega)
                  exact_mod_cast this
                omega
              · rw [ht]
                have : (2 ^ 31 : Int) ≤ 2 ^ (31 + (n + 1)) := by
                  have : (2 : Nat) ^ 31 ≤ 2 ^ (31 + (n + 1)) := Nat.pow_le_pow_right (by decide) (by omega)
                  exact_mod_cast this
                omega
            · cases h
          · split at h
            · next e3 =>
              have e3 := Nat.eq_of_beq_eq_true e3
              subst e3
              obtain ⟨L1, c1, wa, g1, g2, g3, g4, g5⟩ := ih (by omega) h
              obtain ⟨L2, c2, wb, k1, k2, k3, k4, k5⟩ := ih (by omega) g1
              obtain ⟨va, vb, x1, x2, x3⟩ := w2.2 (fun z => by cases z)
              dsimp only at x1 x2 x3
              rw [g2] at x1
              cases x1
              rw [k2] at x2
              cases x2
              have x3 : some (Value.long (wa + wb)) = some w := x3
              cases x3
              have e5 : (2 ^ (31 + (n + 1)) : Int) = 2 ^ (31 + n) + 2 ^ (31 + n) := by
                rw [show 31 + (n + 1) = (31 + n) + 1 by omega, Int.pow_succ]
                omega
              have e6 : (2 ^ (31 + n) : Int) ≤ 2 ^ 34 := by
                have : (2 : Nat) ^ (31 + n) ≤ 2 ^ 34 := Nat.pow_le_pow_right (by decide) (by omega)
                exact_mod_cast this
              have hs : (wa + wb).toInt = wa.toInt + wb.toInt := by
                rw [Int64.toInt_add]
                exact Int.bmod_eq_of_le (by omega) (by omega)
              refine ⟨L2, c2, _, k1, hv, ?_, ?_, ?_⟩
              · rw [k3, g3, hs, Int.mul_add]; omega
              · rw [hs, e5]; omega
              · rw [hs, e5]; omega
            · cases h
        · cases h
      · cases h
    · cases h
theorem se_hio_ok (he : se_env ty ρ ds) : ∀ {L : se_L} {c : Int} {k : Int → Bool}, se_hio ds L c k = true → ∃ h, k h = true ∧ se_fv ρ L c ≤ h
  | [], c, k, h => ⟨c, h, Int.le_refl _⟩
  | (i, m) :: t, c, k, h => by
    unfold se_hio at h
    split at h
    · next d hd =>
      split at h
      · next e =>
        have e := Nat.eq_of_beq_eq_true e
        rw [se_zK_eq] at h
        obtain ⟨b, h1, h2⟩ := se_hio_ok he h
        refine ⟨b, h1, ?_⟩
        obtain ⟨w, w1, w2⟩ := he.2 _ _ hd
        have w2 := w2.1
        unfold se_k at w2
        rw [e] at w2
        obtain ⟨n, rfl, a1, a2⟩ := w2
        show m * se_val ρ i + se_fv ρ t c ≤ b
        rw [se_val_i w1]
        have h3 : m * n.toInt ≤ (if se_le 0 m then m * d.1.2.2 else m * d.1.2.1) := by
          split
          · next q => exact Int.mul_le_mul_of_nonneg_left a2 (se_le_iff.mp q)
          · next q =>
            have q : m ≤ 0 := by
              apply Classical.byContradiction
              intro z
              exact q (se_le_iff.mpr (by omega))
            exact Int.mul_le_mul_of_nonpos_left q a1
        rw [se_fv_c] at h2
        omega
      · cases h
    · cases h
theorem se_l0_ok (he : se_env ty ρ ds) {L : se_L} {c : Int} (h : se_l0 ds L c = true) : se_fv ρ L c ≤ 0 := by
  obtain ⟨b, h1, h2⟩ := se_hio_ok he h
  have := se_le_iff.mp h1
  omega
theorem se_dif_ok (he : se_env ty ρ ds) {x y : se_V} {a b : Int32} {d : Int} {L : se_L} {c : Int} {k : se_L → Int → Bool} (h : se_dif ds x y d L c k = true) (hx : se_v ρ x = some (.int a)) (hy : se_v ρ y = some (.int b)) (hd : a.toInt + d ≤ b.toInt) : ∃ L' c', k L' c' = true ∧ se_fv ρ L c ≤ se_fv ρ L' c' := by
  unfold se_dif at h
  split at h
  · next e =>
    rw [Bool.and_eq_true] at e
    obtain ⟨a', ea, a1, _⟩ := se_okv_ok he hx e.1
    obtain ⟨b', eb, b1, _⟩ := se_okv_ok he hy e.2
    cases ea
    cases eb
    obtain ⟨L1, c1, g1, g2⟩ := se_lin_ok he 4 (v := x) (m := -1) (L := L) (c := c - d) (k := fun L c => se_lin ds 4 y 1 L c k)
    obtain ⟨L2, c2, g3, g4⟩ := se_lin_ok he 4 (v := y) (m := 1) (L := L1) (c := c1) (k := k)
    rw [g1, g3] at h
    refine ⟨L2, c2, h, ?_⟩
    rw [g4, g2, Int.sub_eq_add_neg, se_fv_c]
    omega
  · cases h
theorem se_cmpL {a b : Int64} (h : (lg_cmp a b).toInt ≤ 0) : a.toInt ≤ b.toInt := by
  unfold lg_cmp at h
  by_cases q : a > b
  · rw [if_pos q] at h
    exact absurd h (by decide)
  · have : ¬ b.toInt < a.toInt := fun e => q (Int64.lt_iff_toInt_lt.mpr e)
    omega
theorem se_fct_ok (he : se_env ty ρ ds) {e : Jvm.ClassFile.Cond × se_V × se_V} {L : se_L} {c : Int} {k : se_L → Int → Bool} (h : se_fct ds e L c k = true) {a b : Int32} (hx : se_v ρ e.2.1 = some (.int a)) (hy : se_v ρ e.2.2 = some (.int b)) (hc : mm_P2 e.1 a b = true) : ∃ L' c', k L' c' = true ∧ se_fv ρ L c ≤ se_fv ρ L' c' := by
  unfold se_fct at h
  split at h
  · next x y =>
    have hc : a.toInt ≤ b.toInt := Int32.le_iff_toInt_le.mp (of_decide_eq_true hc)
    rw [Bool.or_eq_true] at h
    rcases h with h | h
    · exact se_dif_ok he h hx hy (by omega)
    · split at h
      · next q =>
        obtain ⟨q1, q2, q3, q4⟩ := q
        split at h
        · next o u v hd =>
          split at h
          · next e1 =>
            have e1 := Nat.eq_of_beq_eq_true e1
            subst e1
            obtain ⟨w, w1, w2⟩ := he.2 _ _ hd
            obtain ⟨L1, c1, wa, g1, g2, g3, _⟩ := se_liL_ok he 3 (by decide) h
            obtain ⟨L2, c2, wb, k1, k2, k3, _⟩ := se_liL_ok he 3 (by decide) g1
            obtain ⟨va, vb, x1, x2, x3⟩ := w2.2 (fun z => by cases z)
            dsimp only at x1 x2 x3
            rw [g2] at x1
            cases x1
            rw [k2] at x2
            cases x2
            have x3 : some (Value.int (lg_cmp wa wb)) = some w := x3
            cases x3
            have ha : a = lg_cmp wa wb := by
              dsimp only at hx
              unfold se_v at hx
              rw [if_neg (by rw [q3]; decide), w1] at hx
              simp only [Option.some.injEq, Value.int.injEq] at hx
              rw [← hx, q3, q4, Int.one_mul, Int.add_zero, Int32.ofInt_toInt]
            have hb : b = 0 := by
              dsimp only at hy
              unfold se_v at hy
              rw [if_pos q1, q2] at hy
              cases hy
              rfl
            have hle := se_cmpL (a := wa) (b := wb) (by rw [← ha]; rw [hb] at hc; exact hc)
            refine ⟨L2, c2, k1, ?_⟩
            rw [k3, g3]
            omega
          · cases h
        · cases h
      · cases h
  · have hc : a.toInt < b.toInt := Int32.lt_iff_toInt_lt.mp (of_decide_eq_true hc)
    exact se_dif_ok he h hx hy (by omega)
  · have hc : b.toInt ≤ a.toInt := Int32.le_iff_toInt_le.mp (of_decide_eq_true hc)
    exact se_dif_ok he h hy hx (by omega)
  · have hc : b.toInt < a.toInt := Int32.lt_iff_toInt_lt.mp (of_decide_eq_true hc)
    exact se_dif_ok he h hy hx (by omega)
  · have hc : a = b := by simpa [mm_P2] using hc
    subst hc
    rw [Bool.or_eq_true] at h
    rcases h with h | h
    · exact se_dif_ok he h hx hy (by omega)
    · exact se_dif_ok he h hy hx (by omega)
  · cases h
theorem se_lub_ok (he : se_env ty ρ ds) {P : se_P} (hp : se_pf ρ P) {x y : se_V} {d : Int} {vx vy : Value} (h : se_lub ds P x y d = true) (hx : se_v ρ x = some vx) (hy : se_v ρ y = some vy) : ∃ a b, vx = .int a ∧ vy = .int b ∧ a.toInt + d ≤ b.toInt := by
  unfold se_lub at h
  split at h
  · next e =>
    rw [Bool.and_eq_true] at e
    obtain ⟨a, rfl, a1, _⟩ := se_okv_ok he hx e.1
    obtain ⟨b, rfl, b1, _⟩ := se_okv_ok he hy e.2
    refine ⟨a, b, rfl, rfl, ?_⟩
    obtain ⟨L1, c1, g1, g2⟩ := se_lin_ok he 4 (v := x) (m := 1) (L := []) (c := d) (k := fun L c => se_lin ds 4 y (-1) L c (fun L c => se_l0 ds L c || P.any (fun e => se_fct ds e L c (fun L c => se_l0 ds L c)) || P.any (fun e => se_fct ds e L c (fun L c => P.any (fun e => se_fct ds e L c (fun L c => se_l0 ds L c))))))
    rw [g1] at h
    obtain ⟨L2, c2, g3, g4⟩ := se_lin_ok he 4 (v := y) (m := -1) (L := L1) (c := c1) (k := fun L c => se_l0 ds L c || P.any (fun e => se_fct ds e L c (fun L c => se_l0 ds L c)) || P.any (fun e => se_fct ds e L c (fun L c => P.any (fun e => se_fct ds e L c (fun L c => se_l0 ds L c)))))
    rw [g3] at h
    have key : se_fv ρ L2 c2 ≤ 0 := by
      rw [Bool.or_eq_true, Bool.or_eq_true] at h
      rcases h with (h | h) | h
      · exact se_l0_ok he h
      · obtain ⟨f, f1, f2⟩ := List.any_eq_true.mp h
        obtain ⟨p, q, p1, p2, p3⟩ := hp f f1
        obtain ⟨L', c', k1, k2⟩ := se_fct_ok he f2 p1 p2 p3
        exact Int.le_trans k2 (se_l0_ok he k1)
      · obtain ⟨f, f1, f2⟩ := List.any_eq_true.mp h
        obtain ⟨p, q, p1, p2, p3⟩ := hp f f1
        obtain ⟨L', c', k1, k2⟩ := se_fct_ok he f2 p1 p2 p3
        obtain ⟨f', f1', f2'⟩ := List.any_eq_true.mp k1
        obtain ⟨p', q', p1', p2', p3'⟩ := hp f' f1'
        obtain ⟨L'', c'', k1', k2'⟩ := se_fct_ok he f2' p1' p2' p3'
        exact Int.le_trans k2 (Int.le_trans k2' (se_l0_ok he k1'))
    rw [g4, g2] at key
    replace key : d + 1 * se_lv ρ x + -1 * se_lv ρ y ≤ 0 := key
    omega
  · cases h
theorem se_lc0_ok (he : se_env ty ρ ds) {P : se_P} (hp : se_pf ρ P) {L : se_L} {c : Int} (h : se_lc0 ds P L c = true) : se_fv ρ L c ≤ 0 := by
  unfold se_lc0 at h
  rw [Bool.or_eq_true, Bool.or_eq_true] at h
  rcases h with (h | h) | h
  · exact se_l0_ok he h
  · obtain ⟨f, f1, f2⟩ := List.any_eq_true.mp h
    obtain ⟨p, q, p1, p2, p3⟩ := hp f f1
    obtain ⟨L', c', k1, k2⟩ := se_fct_ok he f2 p1 p2 p3
    exact Int.le_trans k2 (se_l0_ok he k1)
  · obtain ⟨f, f1, f2⟩ := List.any_eq_true.mp h
    obtain ⟨p, q, p1, p2, p3⟩ := hp f f1
    obtain ⟨L', c', k1, k2⟩ := se_fct_ok he f2 p1 p2 p3
    obtain ⟨f', f1', f2'⟩ := List.any_eq_true.mp k1
    obtain ⟨p', q', p1', p2', p3'⟩ := hp f' f1'
    obtain ⟨L'', c'', k1', k2'⟩ := se_fct_ok he f2' p1' p2' p3'
    exact Int.le_trans k2 (Int.le_trans k2' (se_l0_ok he k1'))
theorem se_lubL_ok (he : se_env ty ρ ds) {P : se_P} (hp : se_pf ρ P) {x y : se_V} {d : Int} {a b : Int64} (h : se_lubL ds P x y d = true) (hx : se_v ρ x = some (.long a)) (hy : se_v ρ y = some (.long b)) : a.toInt + d ≤ b.toInt := by
  unfold se_lubL at h
  obtain ⟨L1, c1, w1, k1, v1, f1, -, -⟩ := se_liL_ok he 3 (Nat.le_refl 3) h
  obtain ⟨L2, c2, w2, k2, v2, f2, -, -⟩ := se_liL_ok he 3 (Nat.le_refl 3) k1
  rw [hx] at v1
  rw [hy] at v2
  cases v1
  cases v2
  have key := se_lc0_ok he hp k2
  rw [f2, f1] at key
  replace key : d + 1 * a.toInt + -1 * b.toInt ≤ 0 := key
  omega
theorem se_cmpG {a b : Int64} (h : b.toInt + 1 ≤ a.toInt) : (lg_cmp a b).toInt = 1 := by
  unfold lg_cmp
  have : a > b := Int64.lt_iff_toInt_lt.mpr (by omega)
  rw [if_pos this]
  decide
theorem se_cmpS {a b : Int64} (h : a.toInt ≤ b.toInt) : (lg_cmp a b).toInt ≤ 0 := by
  unfold lg_cmp
  have : ¬ a > b := fun q => by
    have := Int64.lt_iff_toInt_lt.mp q
    omega
  rw [if_neg this]
  split <;> decide
theorem se_cmpB (a b : Int64) : -1 ≤ (lg_cmp a b).toInt ∧ (lg_cmp a b).toInt ≤ 1 := by
  unfold lg_cmp
  split
  · decide
  · split <;> decide
theorem se_lcK_ok (he : se_env ty ρ ds) {P : se_P} (hp : se_pf ρ P) {v w : se_V} {a b : Int64} {k : List se_D → se_V → se_R} {r : List se_S} (h : se_lcK ds P v w k = some r) (hx : se_v ρ v = some (.long a)) (hy : se_v ρ w = some (.long b)) : ∃ l u, l ≤ (lg_cmp a b).toInt ∧ (lg_cmp a b).toInt ≤ u ∧ k (ds ++ [((0, l, u), 22, v, w)]) (1, ds.length, 0) = some r := by
  unfold se_lcK at h
  split at h
  · next e =>
    rw [se_new_eq] at h
    have := se_lubL_ok he hp e hx hy
    exact ⟨_, _, (se_cmpB a b).1, se_cmpS (by omega), h⟩
  · split at h
    · next e =>
      rw [se_new_eq] at h
      have := se_cmpG (se_lubL_ok he hp e hy hx)
      exact ⟨_, _, by omega, by omega, h⟩
    · rw [se_new_eq] at h
      exact ⟨_, _, (se_cmpB a b).1, (se_cmpB a b).2, h⟩
end SEL
