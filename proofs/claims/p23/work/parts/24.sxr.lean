/-! ===== symbolic runs: what they stand for ===== -/
def sx_g (env : Nat → Int32) : sx_V → Value → Prop
  | .inl w, v => v = w
  | .inr (0, k), v => v = .int (env k)
  | .inr (1, _), v => ∃ x, v = .int x
  | .inr (2, _), v => ∃ x, v = .long x
  | _, _ => False
def sx_r2 {α β : Type} (R : α → β → Prop) : List α → List β → Prop
  | [], [] => True
  | a :: s, b :: t => R a b ∧ sx_r2 R s t
  | _, _ => False
theorem sx_r2_len {α β : Type} {R : α → β → Prop} : ∀ {s : List α} {t : List β}, sx_r2 R s t → s.length = t.length
  | [], [], _ => rfl
  | _ :: s, _ :: t, h => by simp [sx_r2_len h.2]
  | [], _ :: _, h => h.elim
  | _ :: _, [], h => h.elim
theorem sx_r2_get {α β : Type} {R : α → β → Prop} : ∀ {s : List α} {t : List β}, sx_r2 R s t → ∀ {i : Nat} {a : α}, s[i]? = some a → ∃ b, t[i]? = some b ∧ R a b
  | [], [], _, i, a, h => by simp at h
  | x :: s, y :: t, h, 0, a, e => by simp at e; subst e; exact ⟨y, by simp, h.1⟩
  | x :: s, y :: t, h, i + 1, a, e => by simp at e; obtain ⟨b, h1, h2⟩ := sx_r2_get h.2 e; exact ⟨b, by simpa using h1, h2⟩
  | [], _ :: _, h, _, _, _ => h.elim
  | _ :: _, [], h, _, _, _ => h.elim
theorem sx_r2_set {α β : Type} {R : α → β → Prop} {a : α} {b : β} (hab : R a b) : ∀ {s : List α} {t : List β}, sx_r2 R s t → ∀ (i : Nat), sx_r2 R (s.set i a) (t.set i b)
  | [], [], _, i => trivial
  | x :: s, y :: t, h, 0 => ⟨hab, h.2⟩
  | x :: s, y :: t, h, i + 1 => ⟨h.1, sx_r2_set hab h.2 i⟩
  | [], _ :: _, h, _ => h.elim
  | _ :: _, [], h, _ => h.elim
theorem sx_r2_cat {α β : Type} {R : α → β → Prop} : ∀ {s : List α} {t : List β}, sx_r2 R s t → ∀ {s' : List α} {t' : List β}, sx_r2 R s' t' → sx_r2 R (s ++ s') (t ++ t')
  | [], [], _, _, _, h => h
  | x :: s, y :: t, h, _, _, h' => ⟨h.1, sx_r2_cat h.2 h'⟩
  | [], _ :: _, h, _, _, _ => h.elim
  | _ :: _, [], h, _, _, _ => h.elim
theorem sx_r2_rev {α β : Type} {R : α → β → Prop} : ∀ {s : List α} {t : List β}, sx_r2 R s t → sx_r2 R s.reverse t.reverse
  | [], [], _ => trivial
  | x :: s, y :: t, h => by simp only [List.reverse_cons]; exact sx_r2_cat (sx_r2_rev h.2) ⟨h.1, trivial⟩
  | [], _ :: _, h => h.elim
  | _ :: _, [], h => h.elim
theorem sx_r2_take {α β : Type} {R : α → β → Prop} : ∀ {s : List α} {t : List β}, sx_r2 R s t → ∀ (n : Nat), sx_r2 R (s.take n) (t.take n)
  | [], [], _, n => by simp [sx_r2]
  | x :: s, y :: t, h, 0 => trivial
  | x :: s, y :: t, h, n + 1 => ⟨h.1, sx_r2_take h.2 n⟩
  | [], _ :: _, h, _ => h.elim
  | _ :: _, [], h, _ => h.elim
theorem sx_r2_drop {α β : Type} {R : α → β → Prop} : ∀ {s : List α} {t : List β}, sx_r2 R s t → ∀ (n : Nat), sx_r2 R (s.drop n) (t.drop n)
  | [], [], _, n => by simp [sx_r2]
  | x :: s, y :: t, h, 0 => h
  | x :: s, y :: t, h, n + 1 => sx_r2_drop h.2 n
  | [], _ :: _, h, _ => h.elim
  | _ :: _, [], h, _ => h.elim
theorem sx_r2_cons {α β : Type} {R : α → β → Prop} {a : α} {s : List α} {t : List β} (h : sx_r2 R (a :: s) t) : ∃ b t', t = b :: t' ∧ R a b ∧ sx_r2 R s t' := by
  cases t with
  | nil => exact h.elim
  | cons b t' => exact ⟨b, t', rfl, h.1, h.2⟩
theorem sx_r2_nil {α β : Type} {R : α → β → Prop} {t : List β} (h : sx_r2 R ([] : List α) t) : t = [] := by
  cases t with
  | nil => rfl
  | cons b t' => exact h.elim
theorem sx_nK_eq {β : Type} (n : Nat) (k : Nat → β) : sx_nK n k = k n := by cases n <;> rfl
theorem sx_iK_eq {β : Type} (x : Int32) (k : Int32 → β) : sx_iK x k = k x := by
  unfold sx_iK
  rw [sx_nK_eq]
  congr 1
  simp
theorem sx_lK_eq {β : Type} (x : Int64) (k : Int64 → β) : sx_lK x k = k x := by
  unfold sx_lK
  rw [sx_nK_eq]
  congr 1
  simp
theorem sx_setK_eq {α β : Type} : ∀ (l : List α) (i : Nat) (c : α) (k : List α → β), sx_setK l i c k = k (l.set i c)
  | [], i, c, k => by simp [sx_setK]
  | h :: t, 0, c, k => by simp [sx_setK]
  | h :: t, i + 1, c, k => by simp only [sx_setK, List.set_cons_succ]; exact sx_setK_eq t i c _
theorem sx_appK_eq {α β : Type} : ∀ (l : List α) (c : α) (k : List α → β), sx_appK l c k = k (l ++ [c])
  | [], c, k => rfl
  | h :: t, c, k => by simp only [sx_appK, List.cons_append]; exact sx_appK_eq t c _
def sx_rd (up : List (Nat × sx_V)) (j : Nat) (df : sx_V) : sx_V := sx_rdK up j df id
theorem sx_rdK_eq {β : Type} (j : Nat) (df : sx_V) (k : sx_V → β) : ∀ (up : List (Nat × sx_V)), sx_rdK up j df k = k (sx_rd up j df)
  | [] => rfl
  | (i, v) :: t => by
    unfold sx_rd
    simp only [sx_rdK]
    split
    · rfl
    · exact sx_rdK_eq j df k t
theorem sx_rd_cons (i j : Nat) (v df : sx_V) (t : List (Nat × sx_V)) : sx_rd ((i, v) :: t) j df = if i = j then v else sx_rd t j df := by
  unfold sx_rd
  simp only [sx_rdK]
  by_cases h : i = j
  · subst h; simp
  · rw [if_neg h, if_neg (fun q => h (Nat.eq_of_beq_eq_true q))]
def sx_gc (env : Nat → Int32) : sx_C → mm_C → Prop
  | .inl (ty, n, df, up), .inl (ty', xs) => ty = ty' ∧ xs.length = n ∧ ∀ j, j < n → ∃ x, xs[j]? = some x ∧ sx_g env (sx_rd up j df) x
  | .inr (ci, fs), .inr (ci', ws) => ci = ci' ∧ sx_r2 (sx_g env) fs ws
  | _, _ => False
def sx_gl (env : Nat → Int32) (lv : List (Option sx_V)) (lc : List (Nat × Value)) : Prop := ∀ (i : Nat) (v : sx_V), lv[i]? = some (some v) → ∃ x, mm_lget lc i = some x ∧ sx_g env v x
def sx_iv (env : Nat → Int32) (iv : List (Nat × Nat)) : Prop := (∀ (k lo hi : Nat), iv[k]? = some (lo, hi) → lo ≤ sx_off (env k) ∧ sx_off (env k) < hi) ∧ env 6 = env 0 &&& 63
theorem sx_off_lt (x : Int32) : sx_off x < sx_M := by
  have h1 := Int32.toInt_lt x
  have h2 := Int32.le_toInt x
  unfold sx_off sx_M
  omega
theorem sx_off_int (x : Int32) : (sx_off x : Int) = x.toInt + 2147483648 := by
  have h2 := Int32.le_toInt x
  unfold sx_off
  omega
theorem sx_cst_off (x : Int32) : sx_cst (sx_off x) = x := by
  unfold sx_cst
  rw [sx_off_int, Int.add_sub_cancel]
  exact Int32.ofInt_toInt x
theorem sx_P2_off (cd : Jvm.ClassFile.Cond) (x y : Int32) : (mm_P2 cd x y = true → ∃ r ∈ (sx_rng cd (sx_off y)).1, r.1 ≤ sx_off x ∧ sx_off x < r.2) ∧ (mm_P2 cd x y = false → ∃ r ∈ (sx_rng cd (sx_off y)).2, r.1 ≤ sx_off x ∧ sx_off x < r.2) := by
  have hx := sx_off_lt x
  have hy := sx_off_lt y
  have ex := sx_off_int x
  have ey := sx_off_int y
  have hlt : x < y ↔ sx_off x < sx_off y := by rw [Int32.lt_iff_toInt_lt]; omega
  have hgt : y < x ↔ sx_off y < sx_off x := by rw [Int32.lt_iff_toInt_lt]; omega
  have hle : x ≤ y ↔ sx_off x ≤ sx_off y := by rw [Int32.le_iff_toInt_le]; omega
  have hge : y ≤ x ↔ sx_off y ≤ sx_off x := by rw [Int32.le_iff_toInt_le]; omega
  have heq : x = y ↔ sx_off x = sx_off y := by rw [← Int32.toInt_inj]; omega
  cases cd <;> simp only [mm_P2, sx_rng, hlt, hgt, hle, hge, heq, decide_eq_true_eq, decide_eq_false_iff_not, Bool.not_eq_true', Bool.not_eq_false', List.mem_cons, List.not_mem_nil, or_false] <;> constructor <;> intro h
  · exact ⟨_, rfl, by omega, by omega⟩
  · rcases Nat.lt_or_ge (sx_off x) (sx_off y) with q | q
    · exact ⟨_, Or.inl rfl, by omega, by omega⟩
    · exact ⟨_, Or.inr rfl, by dsimp only; omega, by omega⟩
  · rcases Nat.lt_or_ge (sx_off x) (sx_off y) with q | q
    · exact ⟨_, Or.inl rfl, by omega, by omega⟩
    · exact ⟨_, Or.inr rfl, by dsimp only; omega, by omega⟩
  · exact ⟨_, rfl, by omega, by omega⟩
  · exact ⟨_, rfl, by omega, by omega⟩
  · exact ⟨_, rfl, by omega, by omega⟩
  · exact ⟨_, rfl, by omega, by omega⟩
  · exact ⟨_, rfl, by omega, by omega⟩
  · exact ⟨_, rfl, by dsimp only; omega, by omega⟩
  · exact ⟨_, rfl, by omega, by dsimp only; omega⟩
  · exact ⟨_, rfl, by omega, by dsimp only; omega⟩
  · exact ⟨_, rfl, by dsimp only; omega, by omega⟩
theorem sx_swp_P2 (cd : Jvm.ClassFile.Cond) (x y : Int32) : mm_P2 (sx_swp cd) y x = mm_P2 cd x y := by
  cases cd <;> simp only [mm_P2, sx_swp]
  · simp [eq_comm]
  · simp [eq_comm]
theorem sx_cn_g {env : Nat → Int32} {iv : List (Nat × Nat)} (hiv : sx_iv env iv) {v : sx_V} {x : Value} (h : sx_g env v x) : sx_g env (sx_cn iv v) x := by
  unfold sx_cn
  split
  · next k =>
    split
    · next lo hi e1 =>
      split
      · next e2 =>
        have h1 := hiv.1 k lo hi e1
        have h2 : hi = lo + 1 := Nat.eq_of_beq_eq_true e2
        have h3 : sx_off (env k) = lo := by omega
        have h4 : x = .int (env k) := h
        show x = .int (sx_cst lo)
        rw [h4, ← h3, sx_cst_off]
      · exact h
    · exact h
  · exact h
theorem sx_both_inv {a b : sx_R} {l : List sx_S} (h : sx_both a b = some l) : ∃ x y, a = some x ∧ b = some y ∧ l = x ++ y := by
  unfold sx_both at h
  split at h
  · cases h; exact ⟨_, _, rfl, rfl, rfl⟩
  · cases h
theorem sx_iv_set {env : Nat → Int32} {iv : List (Nat × Nat)} (hiv : sx_iv env iv) {k a b : Nat} (h : a ≤ sx_off (env k) ∧ sx_off (env k) < b) : sx_iv env (iv.set k (a, b)) := by
  refine ⟨?_, hiv.2⟩
  intro j lo hi e
  by_cases hj : k = j
  · subst hj
    rw [List.getElem?_set] at e
    simp only [if_true] at e
    split at e
    · cases e; exact h
    · cases e
  · rw [List.getElem?_set_ne hj] at e
    exact hiv.1 j lo hi e
theorem sx_spl_inv {env : Nat → Int32} {iv : List (Nat × Nat)} (hiv : sx_iv env iv) {k : Nat} {kk : List (Nat × Nat) → sx_R} : ∀ {rs : List (Nat × Nat)} {l : List sx_S}, sx_spl iv k rs kk = some l → (∃ r ∈ rs, r.1 ≤ sx_off (env k) ∧ sx_off (env k) < r.2) → ∃ iv' l', kk iv' = some l' ∧ (∀ S ∈ l', S ∈ l) ∧ sx_iv env iv' := by
  intro rs
  induction rs with
  | nil => intro l h hr; obtain ⟨r, hr, -⟩ := hr; exact absurd hr List.not_mem_nil
  | cons ab rs ih =>
    obtain ⟨a, b⟩ := ab
    intro l h hr
    unfold sx_spl at h
    split at h
    · cases h
    · next lo hi e1 =>
      have h1 := hiv.1 k lo hi e1
      simp only at h
      split at h
      · next e2 =>
        refine ih h ?_
        obtain ⟨r, hr1, hr2⟩ := hr
        rcases List.mem_cons.mp hr1 with rfl | hr1
        · exfalso
          have := Nat.le_of_ble_eq_true e2
          dsimp only at hr2
          omega
        · exact ⟨r, hr1, hr2⟩
      · obtain ⟨x, y, hx, hy, rfl⟩ := sx_both_inv h
        rw [sx_nK_eq, sx_nK_eq, sx_setK_eq] at hx
        obtain ⟨r, hr1, hr2⟩ := hr
        rcases List.mem_cons.mp hr1 with rfl | hr1
        · dsimp only at hr2
          exact ⟨_, x, hx, fun S hS => List.mem_append_left _ hS, sx_iv_set hiv ⟨by omega, by omega⟩⟩
        · obtain ⟨iv', l', g1, g2, g3⟩ := ih hy ⟨r, hr1, hr2⟩
          exact ⟨iv', l', g1, fun S hS => List.mem_append_right _ (g2 S hS), g3⟩
theorem sx_isI_g {env : Nat → Int32} {v : sx_V} {w : Value} (h : sx_isI v = true) (hg : sx_g env v w) : ∃ x, w = .int x := by
  unfold sx_isI at h
  split at h
  · exact ⟨_, hg⟩
  · exact ⟨_, hg⟩
  · exact hg
  · cases h
theorem sx_isL_g {env : Nat → Int32} {v : sx_V} {w : Value} (h : sx_isL v = true) (hg : sx_g env v w) : ∃ x, w = .long x := by
  unfold sx_isL at h
  split at h
  · exact ⟨_, hg⟩
  · exact hg
  · cases h
theorem sx_cmp_inv {env : Nat → Int32} {iv : List (Nat × Nat)} (hiv : sx_iv env iv) {cd : Jvm.ClassFile.Cond} {x y : sx_V} {kt kf : List (Nat × Nat) → sx_R} {l : List sx_S} (h : sx_cmp iv cd x y kt kf = some l) {vx vy : Value} (hx : sx_g env x vx) (hy : sx_g env y vy) : ∃ a b, vx = .int a ∧ vy = .int b ∧ ∃ iv' l', (if mm_P2 cd a b then kt else kf) iv' = some l' ∧ (∀ S ∈ l', S ∈ l) ∧ sx_iv env iv' := by
  unfold sx_cmp at h
  split at h
  · next a b =>
    refine ⟨a, b, hx, hy, iv, l, ?_, fun _ h => h, hiv⟩
    split at h <;> next e => simp [e, h]
  · next k b =>
    rw [sx_nK_eq] at h
    obtain ⟨u, w, hu, hw, rfl⟩ := sx_both_inv h
    refine ⟨env k, b, hx, hy, ?_⟩
    cases hP : mm_P2 cd (env k) b with
    | true =>
      obtain ⟨iv', l', g1, g2, g3⟩ := sx_spl_inv hiv hu ((sx_P2_off cd _ _).1 hP)
      exact ⟨iv', l', g1, fun S hS => List.mem_append_left _ (g2 S hS), g3⟩
    | false =>
      obtain ⟨iv', l', g1, g2, g3⟩ := sx_spl_inv hiv hw ((sx_P2_off cd _ _).2 hP)
      exact ⟨iv', l', g1, fun S hS => List.mem_append_right _ (g2 S hS), g3⟩
  · next a k =>
    rw [sx_nK_eq] at h
    obtain ⟨u, w, hu, hw, rfl⟩ := sx_both_inv h
    refine ⟨a, env k, hx, hy, ?_⟩
    rw [← sx_swp_P2 cd a (env k)]
    cases hP : mm_P2 (sx_swp cd) (env k) a with
    | true =>
      obtain ⟨iv', l', g1, g2, g3⟩ := sx_spl_inv hiv hu ((sx_P2_off _ _ _).1 hP)
      exact ⟨iv', l', g1, fun S hS => List.mem_append_left _ (g2 S hS), g3⟩
    | false =>
      obtain ⟨iv', l', g1, g2, g3⟩ := sx_spl_inv hiv hw ((sx_P2_off _ _ _).2 hP)
      exact ⟨iv', l', g1, fun S hS => List.mem_append_right _ (g2 S hS), g3⟩
  · next k j =>
    refine ⟨env k, env j, hx, hy, ?_⟩
    split at h
    · next e1 =>
      have e2 : k = j := Nat.eq_of_beq_eq_true e1
      subst e2
      have e3 : mm_P2 cd (env k) (env k) = mm_P2 cd 0 0 := by cases cd <;> simp [mm_P2]
      refine ⟨iv, l, ?_, fun _ h => h, hiv⟩
      rw [e3]
      split at h <;> next e => simp [e, h]
    · obtain ⟨u, w, hu, hw, rfl⟩ := sx_both_inv h
      cases hP : mm_P2 cd (env k) (env j) with
      | true => exact ⟨iv, u, hu, fun S hS => List.mem_append_left _ hS, hiv⟩
      | false => exact ⟨iv, w, hw, fun S hS => List.mem_append_right _ hS, hiv⟩
  · split at h
    · next e1 =>
      rw [Bool.and_eq_true] at e1
      obtain ⟨a, rfl⟩ := sx_isI_g e1.1 hx
      obtain ⟨b, rfl⟩ := sx_isI_g e1.2 hy
      obtain ⟨u, w, hu, hw, rfl⟩ := sx_both_inv h
      refine ⟨a, b, rfl, rfl, ?_⟩
      cases hP : mm_P2 cd a b with
      | true => exact ⟨iv, u, hu, fun S hS => List.mem_append_left _ hS, hiv⟩
      | false => exact ⟨iv, w, hw, fun S hS => List.mem_append_right _ hS, hiv⟩
    · cases h
