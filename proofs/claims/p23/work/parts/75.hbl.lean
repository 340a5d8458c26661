/-! ===== by hand: values, places, what a stretch starts with and comes to ===== -/
def hb_z (z : Int) : Value := .int (Int32.ofInt z)
def hb_i (z : Int) : Prop := se_lo ≤ z ∧ z ≤ se_hi
theorem hb_zx (x : Int32) : Value.int x = hb_z x.toInt := by unfold hb_z; rw [Int32.ofInt_toInt]
theorem hb_zinj {a b : Int} (h : hb_z a = hb_z b) (ha : hb_i a) (hb : hb_i b) : a = b := by
  unfold hb_z at h
  have h1 : Int32.ofInt a = Int32.ofInt b := by injection h
  have h2 := congrArg Int32.toInt h1
  rw [se_ofInt ha.1 ha.2, se_ofInt hb.1 hb.2] at h2
  exact h2
theorem hb_vz {ρ : List Value} {k : Nat} {z : Int} (h : ρ[k]? = some (hb_z z)) (a c : Int) : se_v ρ (a, k, c) = some (hb_z (a * z + c)) := by
  have h : ρ[k]? = some (.int (Int32.ofInt z)) := h
  rw [se_v_mk h, se_ofInt_sc]
  rfl
theorem hb_vz1 {ρ : List Value} {k : Nat} {z : Int} (h : ρ[k]? = some (hb_z z)) : se_v ρ (1, k, 0) = some (hb_z z) := by
  rw [hb_vz h, Int.one_mul, Int.add_zero]
theorem hb_vr {ρ : List Value} {k p : Nat} (h : ρ[k]? = some (.ref p)) : se_v ρ (1, k, 0) = some (.ref p) := se_v_one h
theorem hb_vc (ρ : List Value) (k : Nat) (c : Int) : se_v ρ (0, k, c) = some (hb_z c) := rfl
theorem hb_kz {ty : Nat → Option Nat} {l h z : Int} (hi : hb_i z) (h1 : l ≤ z) (h2 : z ≤ h) : se_k ty (0, l, h) (hb_z z) := ⟨_, rfl, by rw [se_ofInt hi.1 hi.2]; exact ⟨h1, h2⟩⟩
theorem hb_kr {ty : Nat → Option Nat} {t p : Nat} {l h : Int} (e : ty p = some t) : se_k ty (t + 2, l, h) (.ref p) := ⟨p, rfl, e⟩
def hb_ks (ty : Nat → Option Nat) : List se_D → List Value → Prop
  | [], [] => True
  | d :: ds, w :: ws => d.2.1 = 0 ∧ se_k ty d.1 w ∧ hb_ks ty ds ws
  | _, _ => False
theorem hb_ks_at {ty : Nat → Option Nat} : ∀ {ds : List se_D} {ws : List Value}, hb_ks ty ds ws → ws.length = ds.length ∧ ∀ (k : Nat) (d : se_D), ds[k]? = some d → d.2.1 = 0 ∧ ∃ w, ws[k]? = some w ∧ se_k ty d.1 w
  | [], [], _ => ⟨rfl, fun k d h => by simp at h⟩
  | d :: ds, w :: ws, h => by
    obtain ⟨h1, h2, h3⟩ := h
    obtain ⟨g1, g2⟩ := hb_ks_at h3
    refine ⟨by simp [g1], fun k e he => ?_⟩
    cases k with
    | zero =>
      simp at he
      subst he
      exact ⟨h1, w, rfl, h2⟩
    | succ k =>
      simp at he
      exact g2 k e he
  | [], _ :: _, h => h.elim
  | _ :: _, [], h => h.elim
theorem hb_env {ty : Nat → Option Nat} {ds : List se_D} {ws : List Value} (h : hb_ks ty ds ws) : se_env ty ws ds := by
  obtain ⟨g1, g2⟩ := hb_ks_at h
  refine ⟨g1, fun k d hd => ?_⟩
  obtain ⟨h1, w, h2, h3⟩ := g2 k d hd
  exact ⟨w, h2, h3, fun e => absurd h1 e⟩
theorem hb_at {ρ τ : List Value} {k : Nat} {w : Value} (h : ρ <+: τ) (hw : ρ[k]? = some w) : τ[k]? = some w := by
  obtain ⟨δ, rfl⟩ := h
  rw [List.getElem?_append_left (List.getElem?_eq_some_iff.mp hw).1]
  exact hw
theorem hb_rng {ty : Nat → Option Nat} {τ : List Value} {ds : List se_D} {k : Nat} {l h z : Int} {e : Nat × se_V × se_V} (he : se_env ty τ ds) (hd : ds[k]? = some ((0, l, h), e)) (hw : τ[k]? = some (hb_z z)) (hi : hb_i z) : l ≤ z ∧ z ≤ h := by
  obtain ⟨w, h1, h2⟩ := he.2 k _ hd
  rw [hw] at h1
  cases h1
  obtain ⟨n, hn, g1, g2⟩ := h2.1
  have hn : hb_z z = .int n := hn
  rw [hb_zx n] at hn
  have := hb_zinj hn hi (se_i32 n)
  rw [this]
  exact ⟨g1, g2⟩
theorem hb_new {ty : Nat → Option Nat} {τ : List Value} {ds : List se_D} {k : Nat} {l h : Int} {e : Nat × se_V × se_V} (he : se_env ty τ ds) (hd : ds[k]? = some ((0, l, h), e)) : ∃ z, τ[k]? = some (hb_z z) ∧ hb_i z ∧ l ≤ z ∧ z ≤ h := by
  obtain ⟨w, h1, h2⟩ := he.2 k _ hd
  obtain ⟨n, hn, g1, g2⟩ := h2.1
  have hn : w = .int n := hn
  subst hn
  exact ⟨n.toInt, by rw [h1, hb_zx], se_i32 n, g1, g2⟩
def hb_lc (l : List (Option Value)) (lc : List (Nat × Value)) : Prop := ∀ (i : Nat) (x : Value), l[i]? = some (some x) → mm_lget lc i = some x
def hb_lv (ρ : List Value) : List (Option se_V) → List (Option Value) → Prop
  | [], _ => True
  | none :: t, _ :: l => hb_lv ρ t l
  | some v :: t, some x :: l => se_v ρ v = some x ∧ hb_lv ρ t l
  | _, _ => False
theorem hb_lv_at {ρ : List Value} : ∀ {lv : List (Option se_V)} {l : List (Option Value)}, hb_lv ρ lv l → ∀ (i : Nat) (v : se_V), lv[i]? = some (some v) → ∃ x, l[i]? = some (some x) ∧ se_v ρ v = some x
  | [], _, _, i, v, h => by simp at h
  | none :: t, _ :: l, h, i, v, e => by
    cases i with
    | zero => simp at e
    | succ i => simp at e; simpa using hb_lv_at (show hb_lv ρ t l from h) i v e
  | some u :: t, some x :: l, h, i, v, e => by
    cases i with
    | zero => simp at e; subst e; exact ⟨x, rfl, h.1⟩
    | succ i => simp at e; simpa using hb_lv_at h.2 i v e
  | none :: _, [], h, _, _, _ => h.elim
  | some _ :: _, [], h, _, _, _ => h.elim
  | some _ :: _, none :: _, h, _, _, _ => h.elim
theorem hb_gl {ρ : List Value} {lv : List (Option se_V)} {l : List (Option Value)} {lc : List (Nat × Value)} (h : hb_lc l lc) (hv : hb_lv ρ lv l) : se_gl ρ lv lc := fun i v e => by
  obtain ⟨x, h1, h2⟩ := hb_lv_at hv i v e
  exact ⟨x, h i x h1, h2⟩
def hb_lw (τ : List Value) : List (Option se_V) → List (Option Value) → Prop
  | _, [] => True
  | _ :: t, none :: l => hb_lw τ t l
  | some v :: t, some x :: l => se_v τ v = some x ∧ hb_lw τ t l
  | _, _ => False
theorem hb_lw_at {τ : List Value} : ∀ {lv : List (Option se_V)} {l : List (Option Value)}, hb_lw τ lv l → ∀ (i : Nat) (x : Value), l[i]? = some (some x) → ∃ v, lv[i]? = some (some v) ∧ se_v τ v = some x
  | _, [], _, i, x, h => by simp at h
  | _ :: t, none :: l, h, i, x, e => by
    cases i with
    | zero => simp at e
    | succ i => simp at e; simpa using hb_lw_at (show hb_lw τ t l from h) i x e
  | some u :: t, some y :: l, h, i, x, e => by
    cases i with
    | zero => simp at e; subst e; exact ⟨u, rfl, h.1⟩
    | succ i => simp at e; simpa using hb_lw_at h.2 i x e
  | [], none :: _, h, _, _, _ => h.elim
  | [], some _ :: _, h, _, _, _ => h.elim
  | none :: _, some _ :: _, h, _, _, _ => h.elim
theorem hb_lcof {τ : List Value} {lv : List (Option se_V)} {l : List (Option Value)} {lc : List (Nat × Value)} (h : se_gl τ lv lc) (hv : hb_lw τ lv l) : hb_lc l lc := fun i x e => by
  obtain ⟨v, h1, h2⟩ := hb_lw_at hv i x e
  obtain ⟨y, g1, g2⟩ := h i v h1
  rw [h2] at g2
  cases g2
  exact g1
theorem hb_mf0 (ρ : List Value) (m : List mm_C) : se_mf ρ [] m := fun e h => absurd h List.not_mem_nil
theorem hb_pf0 (ρ : List Value) : se_pf ρ [] := fun e h => absurd h List.not_mem_nil
theorem hb_mf {ρ : List Value} {m : List mm_C} {e : se_V × se_V × se_V} {M : se_M} {q : Nat} {z : Int} {x : Value} (h1 : se_v ρ e.1 = some (.ref q)) (h2 : se_v ρ e.2.1 = some (hb_z z)) (hz : 0 ≤ z) (hi : hb_i z) (h3 : se_v ρ e.2.2 = some x) (h4 : se_get m q z.toNat = some x) (h : se_mf ρ M m) : se_mf ρ (e :: M) m := fun f hf => by
  rcases List.mem_cons.mp hf with rfl | hf
  · exact ⟨q, Int32.ofInt z, x, h1, h2, by rw [se_ofInt hi.1 hi.2]; exact hz, h3, by rw [se_ofInt hi.1 hi.2]; exact h4⟩
  · exact h f hf
theorem hb_mat {τ : List Value} {m : List mm_C} {e : se_V × se_V × se_V} {M : se_M} {q : Nat} {z : Int} {x : Value} (h : se_mf τ M m) (he : e ∈ M) (h1 : se_v τ e.1 = some (.ref q)) (h2 : se_v τ e.2.1 = some (hb_z z)) (hi : hb_i z) (h3 : se_v τ e.2.2 = some x) : se_get m q z.toNat = some x := by
  obtain ⟨q', j, x', g1, g2, g3, g4, g5⟩ := h e he
  rw [h1] at g1
  rw [h2] at g2
  rw [h3] at g4
  cases g1
  cases g2
  cases g4
  rw [se_ofInt hi.1 hi.2] at g5
  exact g5
theorem hb_ap {τ : List Value} {m m' : List mm_C} {e : se_V × se_V × se_V} {t : se_M} {q : Nat} {z : Int} {x : Value} (h : se_ap τ (e :: t) m m') (h1 : se_v τ e.1 = some (.ref q)) (h2 : se_v τ e.2.1 = some (hb_z z)) (hi : hb_i z) (h3 : se_v τ e.2.2 = some x) : ∃ m1, se_ap τ t m m1 ∧ m' = se_set m1 q z.toNat x := by
  obtain ⟨m1, q', j, x', g0, g1, g2, g3, g4, g5⟩ := h
  rw [h1] at g1
  rw [h2] at g2
  rw [h3] at g4
  cases g1
  cases g2
  cases g4
  rw [se_ofInt hi.1 hi.2] at g5
  exact ⟨m1, g0, g5⟩
theorem hb_ap0 {τ : List Value} {m m' : List mm_C} (h : se_ap τ [] m m') : m' = m := h
theorem hb_pgt {τ : List Value} {P : se_P} {x y : se_V} {a b : Int} (h : se_pf τ P) (he : (.gt, x, y) ∈ P) (h1 : se_v τ x = some (hb_z a)) (h2 : se_v τ y = some (hb_z b)) (ha : hb_i a) (hb : hb_i b) : b < a := by
  obtain ⟨u, w, g1, g2, g3⟩ := h _ he
  rw [h1] at g1
  rw [h2] at g2
  cases g1
  cases g2
  have g3 := of_decide_eq_true g3
  rw [Int32.lt_iff_toInt_lt, se_ofInt ha.1 ha.2, se_ofInt hb.1 hb.2] at g3
  exact g3
theorem hb_plt {τ : List Value} {P : se_P} {x y : se_V} {a b : Int} (h : se_pf τ P) (he : (.lt, x, y) ∈ P) (h1 : se_v τ x = some (hb_z a)) (h2 : se_v τ y = some (hb_z b)) (ha : hb_i a) (hb : hb_i b) : a < b := by
  obtain ⟨u, w, g1, g2, g3⟩ := h _ he
  rw [h1] at g1
  rw [h2] at g2
  cases g1
  cases g2
  have g3 := of_decide_eq_true g3
  rw [Int32.lt_iff_toInt_lt, se_ofInt ha.1 ha.2, se_ofInt hb.1 hb.2] at g3
  exact g3
theorem hb_pf {ρ : List Value} {c : Jvm.ClassFile.Cond} {x y : se_V} {a b : Int} {P : se_P} (h1 : se_v ρ x = some (hb_z a)) (h2 : se_v ρ y = some (hb_z b)) (h3 : mm_P2 c (Int32.ofInt a) (Int32.ofInt b) = true) (h : se_pf ρ P) : se_pf ρ ((c, x, y) :: P) := fun f hf => by
  rcases List.mem_cons.mp hf with rfl | hf
  · exact ⟨_, _, h1, h2, h3⟩
  · exact h f hf
theorem hb_le {a b : Int} (ha : hb_i a) (hb : hb_i b) (h : a ≤ b) : mm_P2 .le (Int32.ofInt a) (Int32.ofInt b) = true := decide_eq_true (by rw [Int32.le_iff_toInt_le, se_ofInt ha.1 ha.2, se_ofInt hb.1 hb.2]; exact h)
theorem hb_ge {a b : Int} (ha : hb_i a) (hb : hb_i b) (h : b ≤ a) : mm_P2 .ge (Int32.ofInt a) (Int32.ofInt b) = true := decide_eq_true (by rw [Int32.le_iff_toInt_le, se_ofInt ha.1 ha.2, se_ofInt hb.1 hb.2]; exact h)
theorem hb_lt {a b : Int} (ha : hb_i a) (hb : hb_i b) (h : a < b) : mm_P2 .lt (Int32.ofInt a) (Int32.ofInt b) = true := decide_eq_true (by rw [Int32.lt_iff_toInt_lt, se_ofInt ha.1 ha.2, se_ofInt hb.1 hb.2]; exact h)
theorem hb_gt {a b : Int} (ha : hb_i a) (hb : hb_i b) (h : b < a) : mm_P2 .gt (Int32.ofInt a) (Int32.ofInt b) = true := decide_eq_true (by rw [Int32.lt_iff_toInt_lt, se_ofInt ha.1 ha.2, se_ofInt hb.1 hb.2]; exact h)
section HBT
variable {ty : Nat → Option Nat} {m : List mm_C} {q t : Nat}
theorem hb_ref {i u : Nat} {l h : Int} (htm : se_tm ty se_tt m) (hq : ty q = some t) (hi : i < (se_tt t).2.2.1) (hk : se_seg (se_tt t).2.2.2 i = (u + 2, l, h)) : ∃ p, se_get m q i = some (.ref p) ∧ ty p = some u := by
  obtain ⟨x, h1, h2⟩ := se_tc_get (htm q t hq) hi
  rw [hk] at h2
  obtain ⟨p, rfl, h3⟩ := h2
  exact ⟨p, h1, h3⟩
theorem hb_int {i : Nat} {l h : Int} (htm : se_tm ty se_tt m) (hq : ty q = some t) (hi : i < (se_tt t).2.2.1) (hk : se_seg (se_tt t).2.2.2 i = (0, l, h)) : ∃ z, se_get m q i = some (hb_z z) ∧ hb_i z ∧ l ≤ z ∧ z ≤ h := by
  obtain ⟨x, h1, h2⟩ := se_tc_get (htm q t hq) hi
  rw [hk] at h2
  obtain ⟨n, rfl, h3, h4⟩ := h2
  exact ⟨n.toInt, by rw [h1, hb_zx], se_i32 n, h3, h4⟩
theorem hb_none {i : Nat} (htm : se_tm ty se_tt m) (hq : ty q = some t) (hi : (se_tt t).2.2.1 ≤ i) : se_get m q i = none := by
  have h := htm q t hq
  unfold se_tc at h
  unfold se_get
  split at h
  · obtain ⟨fs, e, h1, h2⟩ := h
    rw [e]
    exact List.getElem?_eq_none (show fs.length ≤ i by omega)
  · obtain ⟨fs, e, h1, h2⟩ := h
    rw [e]
    exact List.getElem?_eq_none (show fs.length ≤ i by omega)
end HBT
theorem hb_tfe {t : Nat} (h1 : t ≠ 56) (h3 : t ≠ 103) (h2 : t ≠ 61) : se_tf t = se_tt t := by
  unfold se_tf
  split
  · exact absurd rfl h1
  · exact absurd rfl h3
  · exact absurd rfl h2
  · rfl
theorem hb_seg_any {n i : Nat} (h : i < n) : se_seg [(0, n, [se_any])] i = se_any := by
  unfold se_seg
  have : (Nat.ble 0 i && Nat.blt i n) = true := by
    rw [Bool.and_eq_true]
    exact ⟨Nat.ble_eq.mpr (Nat.zero_le i), Nat.ble_eq.mpr h⟩
  rw [if_pos this]
  simp [Nat.mod_one]
theorem hb_tf {ty : Nat → Option Nat} {m : List mm_C} (h : se_tm ty se_tt m) : se_tm ty se_tf m := by
  have key : ∀ (p t n : Nat), ty p = some t → (se_tt t).1 = none → (se_tt t).2.1 = .int → (se_tt t).2.2.1 = n → (∀ i, (se_seg (se_tt t).2.2.2 i).1 = 0) → se_tc ty (none, .int, n, [(0, n, [se_any])]) m[p]? := by
    intro p t n hp e1 e2 e3 e4
    have hc := h p t hp
    unfold se_tc at hc ⊢
    rw [e1, e2, e3] at hc
    obtain ⟨xs, g1, g2, g3⟩ := hc
    refine ⟨xs, g1, g2, fun i hi => ?_⟩
    obtain ⟨x, k1, k2⟩ := g3 i hi
    refine ⟨x, k1, ?_⟩
    rw [hb_seg_any hi]
    unfold se_k at k2
    rw [e4 i] at k2
    obtain ⟨y, rfl, -⟩ := k2
    exact ⟨y, rfl, se_i32 y⟩
  intro p t hp
  by_cases h1 : t = 56
  · subst h1
    exact key p 56 2973 hp rfl rfl rfl (se_seg_any (by decide +kernel))
  · by_cases h3 : t = 103
    · subst h3
      exact key p 103 2973 hp rfl rfl rfl (se_seg_any (by decide +kernel))
    · by_cases h2 : t = 61
      · subst h2
        exact key p 61 489 hp rfl rfl rfl (se_seg_any (by decide +kernel))
      · rw [hb_tfe h1 h3 h2]
        exact h p t hp
