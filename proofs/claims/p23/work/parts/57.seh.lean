/-! ===== runs from cut to cut: memory, locals, arguments ===== -/
section SEI
variable {ty : Nat → Option Nat} {tt : Nat → se_Ty} {W Z : se_W} {tw : Nat} {J : List mm_C → Prop} {m0 : List mm_C} {ρ : List Value} {ds : List se_D} {y : Nat} {M : se_M} {K : List se_F} {Kc : List mm_Fr} {P : se_P} {L : Option se_M} {mc : List mm_C} {l : List se_S}
theorem se_find_ok {r i v : se_V} : ∀ {M : se_M}, se_find M r i = some v → (r, i, v) ∈ M
  | [], h => by cases h
  | e :: t, h => by
    unfold se_find at h
    split at h
    · next q =>
      rw [Bool.and_eq_true] at q
      cases h
      rw [← se_eq_ok q.1, ← se_eq_ok q.2]
      exact List.mem_cons_self
    · exact List.mem_cons_of_mem _ (se_find_ok h)
theorem se_is_ok {v : se_V} {κ : se_K} {x : Value} (h : se_is ds v κ = true) (he : se_env ty ρ ds) (hv : se_v ρ v = some x) : se_k ty κ x := by
  unfold se_is at h
  unfold se_k
  split at h
  · next e =>
    rw [e]
    rw [Bool.and_eq_true] at h
    obtain ⟨n, rfl, a1, a2⟩ := se_int he hv (Nat.eq_of_beq_eq_true h.1)
    have h2 := h.2
    replace h2 : (se_le κ.2.1 (se_rg ds v).1 && se_le (se_rg ds v).2 κ.2.2) = true := h2
    rw [Bool.and_eq_true, se_le_iff, se_le_iff] at h2
    exact ⟨n, rfl, Int.le_trans h2.1 a1, Int.le_trans a2 h2.2⟩
  · rw [Bool.and_eq_true] at h
    have hk := Nat.eq_of_beq_eq_true h.1
    split
    · next hne _ e' => exact absurd e' hne
    · next e' => rw [e'] at hk; exact se_long he hv hk
    · next t e' => rw [e'] at hk; exact se_ref he hv hk
theorem se_isP_ok {v : se_V} {κ : se_K} {x : Value} (h : se_isP ds P v κ = true) (he : se_env ty ρ ds) (hp : se_pf ρ P) (hv : se_v ρ v = some x) : se_k ty κ x := by
  unfold se_isP at h
  rw [Bool.or_eq_true] at h
  rcases h with h | h
  · exact se_is_ok h he hv
  · rw [Bool.and_eq_true, Bool.and_eq_true] at h
    obtain ⟨h0, h1, h2⟩ := h
    obtain ⟨a, b, ea, eb, hab⟩ := se_lub_ok he hp h1 (se_v_c ρ 0 _) hv
    obtain ⟨a', b', ea', eb', hab'⟩ := se_lub_ok he hp h2 hv (se_v_c ρ 0 _)
    subst eb
    cases ea'
    have o1 : se_okv ds (0, 0, κ.2.1) = true := by
      unfold se_lub at h1
      split at h1
      · next e => rw [Bool.and_eq_true] at e; exact e.1
      · cases h1
    have o2 : se_okv ds (0, 0, κ.2.2) = true := by
      unfold se_lub at h2
      split at h2
      · next e => rw [Bool.and_eq_true] at e; exact e.2
      · cases h2
    obtain ⟨n1, en1, q1, _⟩ := se_okv_ok he (se_v_c ρ 0 κ.2.1) o1
    obtain ⟨n2, en2, q2, _⟩ := se_okv_ok he (se_v_c ρ 0 κ.2.2) o2
    rw [ea] at en1
    cases en1
    rw [eb'] at en2
    cases en2
    have l1 : se_lv ρ (0, 0, κ.2.1) = κ.2.1 := by show 0 * _ + κ.2.1 = κ.2.1; omega
    have l2 : se_lv ρ (0, 0, κ.2.2) = κ.2.2 := by show 0 * _ + κ.2.2 = κ.2.2; omega
    rw [l1] at q1
    rw [l2] at q2
    unfold se_k
    rw [Nat.eq_of_beq_eq_true h0]
    exact ⟨b, rfl, by omega, by omega⟩
theorem se_jn_ok {a b κ : se_K} {x : Value} (h : se_jn a b = some κ) (hx : se_k ty a x ∨ se_k ty b x) : se_k ty κ x := by
  unfold se_jn at h
  split at h
  · next e =>
    rw [Bool.and_eq_true] at e
    have e1 := Nat.eq_of_beq_eq_true e.1
    have e2 := Nat.eq_of_beq_eq_true e.2
    cases h
    unfold se_k at hx
    rw [e1, e2] at hx
    rcases hx with ⟨n, rfl, a1, a2⟩ | ⟨n, rfl, a1, a2⟩
    · exact ⟨n, rfl, Int.le_trans (se_min_le1 _ _).1 a1, Int.le_trans a2 (se_le_max1 _ _).1⟩
    · exact ⟨n, rfl, Int.le_trans (se_min_le1 _ _).2 a1, Int.le_trans a2 (se_le_max1 _ _).2⟩
  · next e0 =>
    split at h
    · next e =>
      have e := Nat.eq_of_beq_eq_true e
      cases h
      rcases hx with hx | hx
      · exact hx
      · unfold se_k at hx ⊢
        rw [e]
        split at hx
        · next z =>
          exfalso
          apply e0
          rw [e, z]
          rfl
        · exact hx
        · exact hx
    · cases h
theorem se_js_ok {segs : List (Nat × Nat × List se_K)} {x : Value} : ∀ {js : List Nat} {κ κ' : se_K}, se_js segs κ js = some κ' → (se_k ty κ x ∨ ∃ j ∈ js, se_k ty (se_seg segs j) x) → se_k ty κ' x
  | [], κ, κ', h, hx => by
    cases h
    rcases hx with hx | ⟨j, hj, _⟩
    · exact hx
    · exact absurd hj List.not_mem_nil
  | i :: t, κ, κ', h, hx => by
    unfold se_js at h
    split at h
    · next κ1 e =>
      refine se_js_ok h ?_
      rcases hx with hx | ⟨j, hj, hx⟩
      · exact Or.inl (se_jn_ok e (Or.inl hx))
      · rcases List.mem_cons.mp hj with rfl | hj
        · exact Or.inl (se_jn_ok e (Or.inr hx))
        · exact Or.inr ⟨j, hj, hx⟩
    · cases h
theorem se_fit_in {l h : Int} (hl : 0 ≤ (se_fit l h).1) : se_lo ≤ l ∧ h ≤ se_hi := by
  unfold se_fit at hl
  split at hl
  · next e => exact se_in_iff e
  · exact absurd hl (by decide)
theorem se_ixs_ok {v : se_V} {j : Int32} {js : List Nat} (h : se_ixs ds v = some js) (he : se_env ty ρ ds) (hv : se_v ρ v = some (.int j)) (hl : 0 ≤ (se_rg ds v).1) : j.toInt.toNat ∈ js := by
  unfold se_ixs at h
  split at h
  · next e =>
    cases h
    rw [se_v_0 hv e]
    unfold se_rg at hl
    rw [if_pos e] at hl
    have := se_fit_in hl
    rw [se_ofInt this.1 this.2]
    exact List.mem_cons_self
  · next e =>
    obtain ⟨n, g1, rfl⟩ := se_v_lin he hv e
    split at h
    · next d hd =>
      split at h
      · cases h
        obtain ⟨w, g2, g3⟩ := he.2 _ _ hd
        rw [g1] at g2
        cases g2
        have hk : d.1.1 = 0 := by
          have := se_isInt he hv
          unfold se_kd at this
          rw [if_neg e, hd] at this
          exact this
        have g3 := g3.1
        unfold se_k at g3
        rw [hk] at g3
        obtain ⟨n', en, a1, a2⟩ := g3
        cases en
        have hz : se_lo ≤ v.1 * n.toInt + v.2.2 ∧ v.1 * n.toInt + v.2.2 ≤ se_hi := by
          unfold se_rg at hl
          rw [if_neg e, hd] at hl
          dsimp only at hl
          split at hl
          · next q =>
            have q := se_le_iff.mp q
            have := se_fit_in hl
            exact ⟨Int.le_trans this.1 (Int.add_le_add_right (Int.mul_le_mul_of_nonneg_left a1 q) _), Int.le_trans (Int.add_le_add_right (Int.mul_le_mul_of_nonneg_left a2 q) _) this.2⟩
          · next q =>
            have q : v.1 ≤ 0 := by
              apply Classical.byContradiction
              intro z
              exact q (se_le_iff.mpr (by omega))
            have := se_fit_in hl
            exact ⟨Int.le_trans this.1 (Int.add_le_add_right (Int.mul_le_mul_of_nonpos_left q a2) _), Int.le_trans (Int.add_le_add_right (Int.mul_le_mul_of_nonpos_left q a1) _) this.2⟩
        rw [se_ofInt hz.1 hz.2]
        refine List.mem_map.mpr ⟨(n.toInt - d.1.2.1).toNat, List.mem_range.mpr (by omega), ?_⟩
        have : d.1.2.1 + ((n.toInt - d.1.2.1).toNat : Int) = n.toInt := by omega
        rw [this]
      · cases h
    · cases h
theorem se_flat_ok {n j : Nat} {segs : List (Nat × Nat × List se_K)} {κ : se_K} (h : se_flat n segs = some κ) (hj : j < n) : se_seg segs j = κ := by
  unfold se_flat at h
  split at h
  · next b κ' =>
    split at h
    · next e =>
      cases h
      have e := Nat.le_of_ble_eq_true e
      unfold se_seg
      rw [if_pos]
      · simp [Nat.mod_one]
      · rw [Bool.and_eq_true]
        exact ⟨Nat.ble_eq_true_of_le (Nat.zero_le j), Nat.ble_eq_true_of_le (Nat.lt_of_lt_of_le hj e)⟩
    · cases h
  · cases h
theorem se_seg_any {segs : List (Nat × Nat × List se_K)} (h : segs.all (fun e => e.2.2.all (fun κ => Nat.beq κ.1 0)) = true) (i : Nat) : (se_seg segs i).1 = 0 := by
  induction segs with
  | nil => rfl
  | cons e t ih =>
    rw [List.all_cons, Bool.and_eq_true] at h
    obtain ⟨a, b, pt⟩ := e
    unfold se_seg
    split
    · rw [List.getD_eq_getElem?_getD]
      cases hq : pt[(i - a) % pt.length]? with
      | none => rfl
      | some κ =>
        have := List.all_eq_true.mp h.1 κ (List.mem_of_getElem? hq)
        exact Nat.eq_of_beq_eq_true this
    · exact ih h.2
theorem se_nn_ok {i : se_V} (h : se_nn ds i = true) : 0 ≤ (se_rg ds i).1 := by
  replace h : se_le 0 (se_rg ds i).1 = true := h
  exact se_le_iff.mp h
theorem se_ix_ok {n : Nat} {i : se_V} {x : Value} (h : se_ix ds P n i = true) (he : se_env ty ρ ds) (hp : se_pf ρ P) (hi : se_v ρ i = some x) : ∃ j : Int32, x = .int j ∧ 0 ≤ j.toInt ∧ j.toInt < (n : Int) := by
  replace h : (Nat.beq (se_kd ds i) 0 && ((se_le 0 (se_rg ds i).1 && decide ((se_rg ds i).2 < (n : Int))) || (se_lub ds P (0, 0, 0) i 0 && se_lub ds P i (0, 0, (n : Int) - 1) 0))) = true := h
  rw [Bool.and_eq_true, Bool.or_eq_true] at h
  obtain ⟨h0, h | h⟩ := h
  · rw [Bool.and_eq_true, se_le_iff] at h
    obtain ⟨j, rfl, a1, a2⟩ := se_int he hi (Nat.eq_of_beq_eq_true h0)
    have := of_decide_eq_true h.2
    exact ⟨j, rfl, by omega, by omega⟩
  · have hk := se_isP_ok (κ := (0, 0, (n : Int) - 1)) (v := i) (P := P) (ds := ds) (ty := ty) (ρ := ρ) (x := x) (by unfold se_isP; rw [Bool.or_eq_true]; exact Or.inr (by rw [Bool.and_eq_true]; exact ⟨rfl, h⟩)) he hp hi
    obtain ⟨j, rfl, a1, a2⟩ := hk
    have a1 : 0 ≤ j.toInt := a1
    have a2 : j.toInt ≤ (n : Int) - 1 := a2
    exact ⟨j, rfl, a1, by omega⟩
theorem se_lk_ok {n : Nat} {segs : List (Nat × Nat × List se_K)} {i : se_V} {κ : se_K} {j : Int32} {x : Value} (h : se_lk ds n segs i = some κ) (he : se_env ty ρ ds) (hi : se_v ρ i = some (.int j)) (hj : j.toInt.toNat < n) (hx : se_k ty (se_seg segs j.toInt.toNat) x) : se_k ty κ x := by
  unfold se_lk at h
  split at h
  · next e =>
    cases h
    rw [← se_flat_ok e hj]
    exact hx
  · split at h
    · next j0 js en e =>
      have hm := se_ixs_ok e he hi (se_nn_ok en)
      refine se_js_ok h ?_
      rcases List.mem_cons.mp hm with q | q
      · rw [← q]; exact Or.inl hx
      · exact Or.inr ⟨_, q, hx⟩
    · split at h
      · next e =>
        cases h
        unfold se_k at hx
        rw [se_seg_any e] at hx
        obtain ⟨m, rfl, _⟩ := hx
        exact ⟨m, rfl, (se_i32 m).1, (se_i32 m).2⟩
      · cases h
theorem se_sk_ok {n : Nat} {segs : List (Nat × Nat × List se_K)} {i v : se_V} {j : Int32} {x : Value} (h : se_sk ds P n segs i v = true) (he : se_env ty ρ ds) (hp : se_pf ρ P) (hi : se_v ρ i = some (.int j)) (hj : j.toInt.toNat < n) (hv : se_v ρ v = some x) : se_k ty (se_seg segs j.toInt.toNat) x := by
  unfold se_sk at h
  split at h
  · next e =>
    rw [se_flat_ok e hj]
    exact se_isP_ok h he hp hv
  · split at h
    · next js en e => exact se_isP_ok (List.all_eq_true.mp h _ (se_ixs_ok e he hi (se_nn_ok en))) he hp hv
    · cases h
theorem se_load_ok {n : Nat} {segs : List (Nat × Nat × List se_K)} {r i : se_V} {q t : Nat} {xi : Value} {k : List se_D → se_M → se_V → se_R} (h : se_load ds M P n segs r i k = some l) (he : se_env ty ρ ds) (hp : se_pf ρ P) (hM : se_mf ρ M mc) (htm : se_tm ty tt mc) (hr : se_v ρ r = some (.ref q)) (hq : ty q = some t) (hn : (tt t).2.2.1 = n) (hs : (tt t).2.2.2 = segs) (hi : se_v ρ i = some xi) : ∃ j : Int32, xi = .int j ∧ 0 ≤ j.toInt ∧ j.toInt < (n : Int) ∧ ∃ δ ds' M' v x, k ds' M' v = some l ∧ se_env ty (ρ ++ δ) ds' ∧ se_mf (ρ ++ δ) M' mc ∧ se_v (ρ ++ δ) v = some x ∧ se_get mc q j.toInt.toNat = some x ∧ se_k ty (se_seg segs j.toInt.toNat) x := by
  unfold se_load at h
  split at h
  · next e =>
    obtain ⟨j, rfl, e1, e2⟩ := se_ix_ok e he hp hi
    have hj : j.toInt.toNat < n := by omega
    obtain ⟨x, x1, x2⟩ := se_tc_get (htm q t hq) (by rw [hn]; exact hj)
    rw [hs] at x2
    refine ⟨j, rfl, by omega, by omega, ?_⟩
    split at h
    · next v ev =>
      obtain ⟨q', j', x', g1, g2, g3, g4, g5⟩ := hM _ (se_find_ok ev)
      dsimp only at g1 g2 g4
      rw [hr] at g1
      cases g1
      rw [hi] at g2
      cases g2
      rw [x1] at g5
      cases g5
      exact ⟨[], ds, M, v, x, h, by rw [List.append_nil]; exact he, by rw [List.append_nil]; exact hM, by rw [List.append_nil]; exact g4, x1, x2⟩
    · split at h
      · next κ ek =>
        rw [se_new_eq] at h
        have hn1 : se_v (ρ ++ [x]) (1, ds.length, 0) = some x := by rw [← he.1]; exact se_v_new ρ x
        refine ⟨[x], _, _, _, x, h, se_env_new he (se_dok0 (se_lk_ok ek he hi hj x2)), ?_, hn1, x1, x2⟩
        intro f hf
        rcases List.mem_cons.mp hf with rfl | hf
        · exact ⟨q, j, x, se_v_app hr _, se_v_app hi _, by omega, hn1, x1⟩
        · exact se_mf_app hM [x] f hf
      · cases h
  · cases h
theorem se_flt_eq {α β : Type} (p : α → Bool) : ∀ (l : List α) (k : List α → β), se_flt p l k = k (l.filter p)
  | [], k => rfl
  | a :: t, k => by
    unfold se_flt
    split
    · next e => rw [se_flt_eq p t, List.filter_cons_of_pos e]
    · next e => rw [se_flt_eq p t, List.filter_cons_of_neg (by rw [e]; decide)]
/-- J looks at no slot but those of Z -/
def se_Jz (ty : Nat → Option Nat) (Z : se_W) (J : List mm_C → Prop) : Prop := ∀ m m' : List mm_C, (∀ (p t i : Nat), ty p = some t → (∃ u ∈ Z, u.1 = t ∧ u.2.1 ≤ i ∧ i < u.2.2) → se_get m' p i = se_get m p i) → J m → J m'
theorem se_has_ok {t n : Nat} {i : se_V} {j : Int32} (h : se_has W ds t n i = true) (he : se_env ty ρ ds) (hi : se_v ρ i = some (.int j)) (h0 : 0 ≤ j.toInt) (hj : j.toInt.toNat < n) : ∃ u ∈ W, u.1 = t ∧ u.2.1 ≤ j.toInt.toNat ∧ j.toInt.toNat < u.2.2 := by
  unfold se_has at h
  obtain ⟨u, h1, h2⟩ := List.any_eq_true.mp h
  replace h2 : (Nat.beq u.1 t && ((Nat.beq u.2.1 0 && Nat.ble n u.2.2) || (se_le u.2.1 (se_rg ds i).1 && decide ((se_rg ds i).2 < (u.2.2 : Int))))) = true := h2
  rw [Bool.and_eq_true, Bool.or_eq_true] at h2
  refine ⟨u, h1, Nat.eq_of_beq_eq_true h2.1, ?_⟩
  rcases h2.2 with q | q
  · rw [Bool.and_eq_true] at q
    have q1 := Nat.eq_of_beq_eq_true q.1
    have q2 := Nat.le_of_ble_eq_true q.2
    omega
  · rw [Bool.and_eq_true, se_le_iff] at q
    have q2 := of_decide_eq_true q.2
    obtain ⟨n', en, a1, a2⟩ := se_int he hi (se_isInt he hi)
    cases en
    omega
theorem se_out_ok {t : Nat} {i : se_V} {j : Int32} (h : se_out Z ds t i = true) (he : se_env ty ρ ds) (hi : se_v ρ i = some (.int j)) (h0 : 0 ≤ j.toInt) : ∀ u ∈ Z, u.1 = t → ¬ (u.2.1 ≤ j.toInt.toNat ∧ j.toInt.toNat < u.2.2) := by
  intro u hu et
  unfold se_out at h
  have h2 := List.all_eq_true.mp h u hu
  replace h2 : (!(Nat.beq u.1 t) || (decide ((se_rg ds i).2 < (u.2.1 : Int)) || se_le u.2.2 (se_rg ds i).1)) = true := h2
  rw [Bool.or_eq_true, Bool.or_eq_true, se_le_iff] at h2
  obtain ⟨n', en, a1, a2⟩ := se_int he hi (se_isInt he hi)
  cases en
  rcases h2 with h2 | h2 | h2
  · rw [et] at h2
    simp at h2
  · have := of_decide_eq_true h2
    omega
  · omega
theorem se_apart_ok {r i : se_V} {e : se_V × se_V × se_V} {q q' : Nat} {j j' : Int32} (h : se_apart ds r i e = true) (he : se_env ty ρ ds) (hr : se_v ρ r = some (.ref q)) (hi : se_v ρ i = some (.int j)) (hr' : se_v ρ e.1 = some (.ref q')) (hi' : se_v ρ e.2.1 = some (.int j')) (h0 : 0 ≤ j.toInt) (h0' : 0 ≤ j'.toInt) : q' ≠ q ∨ j'.toInt.toNat ≠ j.toInt.toNat := by
  replace h : (!(Nat.beq (se_kd ds r) (se_kd ds e.1)) || (decide ((se_rg ds i).2 < (se_rg ds e.2.1).1) || decide ((se_rg ds e.2.1).2 < (se_rg ds i).1))) = true := h
  rw [Bool.or_eq_true, Bool.or_eq_true] at h
  rcases h with h | h
  · refine Or.inl (fun eq => ?_)
    subst eq
    obtain ⟨t, k1, k2⟩ := se_isRef he hr
    obtain ⟨t', k3, k4⟩ := se_isRef he hr'
    rw [k2] at k4
    cases k4
    rw [k1, k3] at h
    simp at h
  · obtain ⟨n, en, a1, a2⟩ := se_int he hi (se_isInt he hi)
    obtain ⟨n', en', b1, b2⟩ := se_int he hi' (se_isInt he hi')
    cases en; cases en'
    refine Or.inr ?_
    rcases h with h | h
    · have := of_decide_eq_true h; omega
    · have := of_decide_eq_true h; omega
theorem se_store_ok (hJ : se_Jz ty Z J) {n : Nat} {segs : List (Nat × Nat × List se_K)} {r i v : se_V} {q t : Nat} {xi x : Value} {k : se_M → Option se_M → se_R} (h : se_store W Z tw ds M P L n segs r i v k = some l) (he : se_env ty ρ ds) (hX : se_X ty tt W J m0 ρ y M K Kc P L mc) (hr : se_v ρ r = some (.ref q)) (hq : ty q = some t) (hn : (tt t).2.2.1 = n) (hs : (tt t).2.2.2 = segs) (hi : se_v ρ i = some xi) (hv : se_v ρ v = some x) : ∃ j : Int32, xi = .int j ∧ 0 ≤ j.toInt ∧ j.toInt < (n : Int) ∧ tw ≤ t ∧ ∃ M' L', k M' L' = some l ∧ se_X ty tt W J m0 ρ y M' K Kc P L' (se_set mc q j.toInt.toNat x) := by
  unfold se_store at h
  split at h
  · next e =>
    rw [Bool.and_eq_true, Bool.and_eq_true, Bool.and_eq_true, Bool.and_eq_true] at e
    obtain ⟨e0, e1, e2, e3, e4⟩ := e
    obtain ⟨hM, hK, hKl, hP, hL, htm, hJm, hF⟩ := hX
    obtain ⟨j, rfl, hj0, hj1⟩ := se_ix_ok e0 he hP hi
    have hj : j.toInt.toNat < n := by omega
    obtain ⟨t', k1, k2⟩ := se_isRef he hr
    rw [hq] at k2
    cases k2
    rw [k1] at e1 e2 e3
    have hW := se_has_ok e1 he hi hj0 hj
    have hO := se_out_ok e2 he hi hj0
    obtain ⟨x0, x1, x2⟩ := se_tc_get (htm q t hq) (by rw [hn]; exact hj)
    rw [se_flt_eq] at h
    refine ⟨j, rfl, hj0, by omega, Nat.le_of_ble_eq_true e3, _, _, h, ?_, hK, hKl, hP, ?_, ?_, ?_, ?_⟩
    · intro f hf
      rcases List.mem_cons.mp hf with rfl | hf
      · exact ⟨q, j, x, hr, hi, hj0, hv, se_get_set x1⟩
      · obtain ⟨f1, f2⟩ := List.mem_filter.mp hf
        obtain ⟨q', j', x', g1, g2, g3, g4, g5⟩ := hM f f1
        refine ⟨q', j', x', g1, g2, g3, g4, ?_⟩
        rw [se_get_set_ne (se_apart_ok f2 he hr hi g1 g2 hj0 g3)]
        exact g5
    · intro l' hl'
      obtain ⟨l0, e5, rfl⟩ := Option.map_eq_some_iff.mp hl'
      exact ⟨mc, q, j, x, hL l0 e5, hr, hi, hj0, hv, rfl⟩
    · refine se_tm_set htm hq ?_
      rw [hs]
      exact se_sk_ok e4 he hP hi hj hv
    · refine hJ mc _ (fun p u i hp hu => ?_) hJm
      refine se_get_set_ne ?_
      by_cases ep : p = q
      · subst ep
        rw [hq] at hp
        cases hp
        obtain ⟨z, z1, z2, z3, z4⟩ := hu
        refine Or.inr (fun ei => hO z z1 z2 ?_)
        rw [← ei]
        exact ⟨z3, z4⟩
      · exact Or.inl ep
    · refine ⟨fun p hp => ?_, fun p u i hp hu => ?_⟩
      · have : p ≠ q := fun e => by rw [e, hq] at hp; cases hp
        rw [se_set_at this]
        exact hF.1 p hp
      · rw [← hF.2 p u i hp hu]
        refine se_get_set_ne ?_
        by_cases ep : p = q
        · subst ep
          rw [hq] at hp
          cases hp
          obtain ⟨z, z1, z2, z3, z4⟩ := hW
          refine Or.inr (fun ei => ?_)
          rcases hu z z1 z2 with g | g
          · omega
          · omega
        · exact Or.inl ep
  · cases h
theorem se_catne (he : se_env ty ρ ds) {v : se_V} {x : Value} (hx : se_v ρ v = some x) (h : Nat.beq (se_kd ds v) 1 = false) : x.category = 1 := by
  rw [se_cat_ok he hx]
  unfold se_cat
  rw [h]
  rfl
theorem se_cat2 (he : se_env ty ρ ds) {v : se_V} {x : Value} (hx : se_v ρ v = some x) (h : Nat.beq (se_kd ds v) 1 = true) : x.category = 2 := by
  rw [se_cat_ok he hx]
  unfold se_cat
  rw [h]
  rfl
end SEI
