/-! ===== runs from cut to cut: ops, comparisons ===== -/
theorem se_eq_ok {v w : se_V} (h : se_eq v w = true) : v = w := by
  unfold se_eq at h
  simp only [Bool.and_eq_true, decide_eq_true_eq] at h
  obtain ⟨a, b, c⟩ := v
  obtain ⟨a', b', c'⟩ := w
  obtain ⟨h1, h2, h3⟩ := h
  have h2 := Nat.eq_of_beq_eq_true h2
  dsimp only at h1 h2 h3
  rw [h1, h2, h3]
theorem se_fdd_ok {o : Nat} {x w : se_V} : ∀ {t : List se_D} {n k : Nat}, se_fdd o x w t n = some k → ∃ d, t[k - n]? = some d ∧ n ≤ k ∧ d.2.1 = o ∧ d.2.2.1 = x ∧ d.2.2.2 = w
  | [], n, k, h => by cases h
  | d :: t, n, k, h => by
    unfold se_fdd at h
    split at h
    · next e =>
      cases h
      rw [Bool.and_eq_true, Bool.and_eq_true] at e
      exact ⟨d, by simp, Nat.le_refl _, Nat.eq_of_beq_eq_true e.1, se_eq_ok e.2.1, se_eq_ok e.2.2⟩
    · obtain ⟨d', h1, h2, h3⟩ := se_fdd_ok h
      refine ⟨d', ?_, by omega, h3⟩
      rw [show k - n = (k - (n + 1)) + 1 by omega]
      simpa using h1
section SEH
variable {ty : Nat → Option Nat} {tt : Nat → se_Ty} {W : se_W} {J : List mm_C → Prop} {m0 : List mm_C} {ρ : List Value} {ds : List se_D} {y : Nat} {M : se_M} {K : List se_F} {Kc : List mm_Fr} {P : se_P} {L : Option se_M} {mc : List mm_C} {l : List se_S}
theorem se_ofInt_add (a b : Int) : Int32.ofInt a + Int32.ofInt b = Int32.ofInt (a + b) := by rw [Int32.ofInt_add]
theorem se_ofInt_lin {α c : Int} {n : Int32} (d : Int) : Int32.ofInt (α * n.toInt + c) + Int32.ofInt d = Int32.ofInt (α * n.toInt + (c + d)) := by
  rw [se_ofInt_add, Int.add_assoc]
theorem se_v_lin (h : se_env ty ρ ds) {v : se_V} {x : Int32} (hx : se_v ρ v = some (.int x)) (hv : v.1 ≠ 0) : ∃ n : Int32, ρ[v.2.1]? = some (.int n) ∧ x = Int32.ofInt (v.1 * n.toInt + v.2.2) := by
  rcases se_kd_at h hx with ⟨e, _, _⟩ | ⟨e, d, w, h1, h2, h3, h4⟩
  · exact absurd e hv
  · have hk := se_isInt h hx
    rw [h3] at hk
    have hw := h4.1
    unfold se_k at hw
    rw [hk] at hw
    obtain ⟨n, rfl, _⟩ := hw
    refine ⟨n, h2, ?_⟩
    unfold se_v at hx
    rw [if_neg e, h2] at hx
    cases hx
    rfl
theorem se_v_mk {k : Nat} {α c : Int} {n : Int32} (h : ρ[k]? = some (.int n)) : se_v ρ (α, k, c) = some (.int (Int32.ofInt (α * n.toInt + c))) := by
  unfold se_v
  split
  · next e =>
    have e : α = 0 := e
    rw [e, Int.zero_mul, Int.zero_add]
  · simp only [h]
theorem se_v_0 {v : se_V} {x : Int32} (hx : se_v ρ v = some (.int x)) (hv : v.1 = 0) : x = Int32.ofInt v.2.2 := by
  unfold se_v at hx
  rw [if_pos hv] at hx
  cases hx
  rfl
theorem se_bin_ok {o : Nat} {u v : se_V} {a b : Int32} {k : List se_D → se_V → se_R} (h : se_bin ds o u v k = some l) (he : se_env ty ρ ds) (hu : se_v ρ u = some (.int a)) (hv : se_v ρ v = some (.int b)) (ho : o ≠ 0) (ho2 : o ≠ 20) : ∃ ds' w δ, k ds' w = some l ∧ se_env ty (ρ ++ δ) ds' ∧ se_v (ρ ++ δ) w = some (.int (se_op o a b)) := by
  have stay : ∀ w, k ds w = some l → se_v ρ w = some (.int (se_op o a b)) → ∃ ds' w δ, k ds' w = some l ∧ se_env ty (ρ ++ δ) ds' ∧ se_v (ρ ++ δ) w = some (.int (se_op o a b)) := fun w h1 h2 => ⟨ds, w, [], h1, by rw [List.append_nil]; exact he, by rw [List.append_nil]; exact h2⟩
  unfold se_bin at h
  split at h
  · next e =>
    rw [se_con_eq] at h
    refine stay _ h ?_
    rw [se_v_i, se_v_0 hu e.1, se_v_0 hv e.2]
  · next hnc =>
    split at h
    · next e1 e2 =>
      have e1 := of_decide_eq_false e1
      have e2 := of_decide_eq_true e2
      rw [se_vK_eq] at h
      obtain ⟨n, g1, rfl⟩ := se_v_lin he hu e1
      refine stay _ h ?_
      rw [se_v_mk g1, se_v_0 hv e2]
      show _ = some (Value.int (_ + _))
      rw [se_ofInt_add, Int.add_assoc]
    · next e1 e2 =>
      have e1 := of_decide_eq_true e1
      have e2 := of_decide_eq_false e2
      rw [se_vK_eq] at h
      obtain ⟨n, g1, rfl⟩ := se_v_lin he hv e2
      refine stay _ h ?_
      rw [se_v_mk g1, se_v_0 hu e1]
      show _ = some (Value.int (_ + _))
      rw [se_ofInt_add]
      congr 3
      omega
    · next e1 e2 =>
      have e1 := of_decide_eq_false e1
      have e2 := of_decide_eq_true e2
      rw [se_vK_eq] at h
      obtain ⟨n, g1, rfl⟩ := se_v_lin he hu e1
      refine stay _ h ?_
      rw [se_v_mk g1, se_v_0 hv e2]
      show _ = some (Value.int (_ - _))
      rw [← Int32.ofInt_sub]
      congr 3
      omega
    · next e1 e2 =>
      have e1 := of_decide_eq_true e1
      have e2 := of_decide_eq_false e2
      rw [se_vK_eq] at h
      obtain ⟨n, g1, rfl⟩ := se_v_lin he hv e2
      refine stay _ h ?_
      rw [se_v_mk g1, se_v_0 hu e1]
      show _ = some (Value.int (_ - _))
      rw [← Int32.ofInt_sub, Int.neg_mul]
      congr 3
      omega
    · next e1 e2 =>
      have e1 := of_decide_eq_false e1
      have e2 := of_decide_eq_true e2
      obtain ⟨n, g1, rfl⟩ := se_v_lin he hu e1
      split at h
      · next e3 =>
        refine stay _ h ?_
        rw [se_v_c, se_v_0 hv e2, e3]
        show _ = some (Value.int (_ * _))
        rw [← Int32.ofInt_mul, Int.mul_zero]
      · rw [se_vK_eq] at h
        refine stay _ h ?_
        rw [se_v_mk g1, se_v_0 hv e2]
        show _ = some (Value.int (_ * _))
        rw [← Int32.ofInt_mul, Int.add_mul, Int.mul_right_comm]
    · next e1 e2 =>
      have e1 := of_decide_eq_true e1
      have e2 := of_decide_eq_false e2
      obtain ⟨n, g1, rfl⟩ := se_v_lin he hv e2
      split at h
      · next e3 =>
        refine stay _ h ?_
        rw [se_v_c, se_v_0 hu e1, e3]
        show _ = some (Value.int (_ * _))
        rw [← Int32.ofInt_mul, Int.zero_mul]
      · rw [se_vK_eq] at h
        refine stay _ h ?_
        rw [se_v_mk g1, se_v_0 hu e1]
        show _ = some (Value.int (_ * _))
        rw [Int32.mul_comm, ← Int32.ofInt_mul, Int.add_mul, Int.mul_right_comm]
    · next e1 =>
      have e1 := of_decide_eq_false e1
      rw [se_vK_eq] at h
      obtain ⟨n, g1, rfl⟩ := se_v_lin he hu e1
      refine stay _ h ?_
      rw [se_v_mk g1]
      show _ = some (Value.int (- _))
      rw [← Int32.ofInt_neg]
      congr 3
      rw [Int.neg_mul]
      omega
    · obtain ⟨a', ea, a1, a2⟩ := se_int he hu (se_isInt he hu)
      obtain ⟨b', eb, b1, b2⟩ := se_int he hv (se_isInt he hv)
      cases ea; cases eb
      split at h
      · next e2 =>
        rw [Bool.and_eq_true, Bool.and_eq_true] at e2
        have q2 := of_decide_eq_true e2.2.1
        have q3 := Nat.eq_of_beq_eq_true e2.2.2
        have eo := Nat.eq_of_beq_eq_true e2.1
        have hu1 : u.1 ≠ 0 := fun z => hnc ⟨z, by rw [← q2]; exact z⟩
        obtain ⟨n, g1, rfl⟩ := se_v_lin he hu hu1
        obtain ⟨n', g2, rfl⟩ := se_v_lin he hv (by rw [← q2]; exact hu1)
        rw [← q3, g1] at g2
        cases g2
        rw [se_con_eq] at h
        refine stay _ h ?_
        rw [se_v_i]
        subst eo
        show _ = some (Value.int (_ - _))
        rw [← Int32.ofInt_sub, q2]
        congr 3
        omega
      · split at h
        · next n hn =>
          split at hn
          · rw [sx_nK_eq] at h
            obtain ⟨d, d1, -, d3, d4, d5⟩ := se_fdd_ok hn
            rw [Nat.sub_zero] at d1
            obtain ⟨w, w1, w2⟩ := he.2 _ _ d1
            obtain ⟨va, vb, x1, x2, x3⟩ := w2.2 (by rw [d3]; exact ho)
            rw [d4, hu] at x1
            cases x1
            rw [d5, hv] at x2
            cases x2
            rw [d3] at x3
            have x4 := (if_neg ho2).symm.trans x3
            cases x4
            exact stay _ h (by rw [se_v_mk w1, Int.one_mul, Int.add_zero, Int32.ofInt_toInt])
          · cases hn
        · have c1 := (se_rg_hi ds u).2
          have c2 := (se_rg_hi ds v).2
          replace h : se_new ds 0 _ _ _ u v k = some l := h
          rw [se_new_eq] at h
          refine ⟨_, _, [.int (se_op _ a b)], h, se_env_new he ⟨⟨_, rfl, se_ro_ok _ a1 a2 b1 b2 c1 c2⟩, fun _ => ⟨.int a, .int b, hu, hv, if_neg ho2⟩⟩, ?_⟩
          rw [← he.1]
          exact se_v_new ρ _
theorem se_nrw_ok {i : Nat} {n : Int32} {p q lo hi : Int} {e : Nat × se_V × se_V} {k : List se_D → se_R} (h : se_nrw ds i 0 p q e lo hi k = some l) (he : se_env ty ρ ds) (hd : ds[i]? = some ((0, p, q), e)) (hn : ρ[i]? = some (.int n)) (h1 : lo ≤ n.toInt) (h2 : n.toInt ≤ hi) : ∃ ds', k ds' = some l ∧ se_env ty ρ ds' := by
  unfold se_nrw at h
  rw [se_zK_eq, se_zK_eq] at h
  obtain ⟨w, g2, g3⟩ := he.2 _ _ hd
  rw [hn] at g2
  cases g2
  obtain ⟨n', en, n1, n2⟩ := g3.1
  cases en
  have n1 : p ≤ n.toInt := n1
  have n2 : n.toInt ≤ q := n2
  split at h
  · rw [se_zK_eq, se_zK_eq, sx_setK_eq] at h
    refine ⟨_, h, by rw [List.length_set]; exact he.1, fun j d hj => ?_⟩
    by_cases ej : i = j
    · subst ej
      have hlt := (List.getElem?_eq_some_iff.mp hd).1
      rw [List.getElem?_set] at hj
      simp only [if_true, hlt] at hj
      cases hj
      exact ⟨_, hn, ⟨n, rfl, se_max_of n1 h1, se_min_of n2 h2⟩, g3.2⟩
    · rw [List.getElem?_set_ne ej] at hj
      exact he.2 j d hj
  · next hno =>
    exfalso
    apply hno
    rw [se_le_iff]
    exact Int.le_trans (se_max_of n1 h1) (se_min_of n2 h2)
theorem se_cut_ok {v : se_V} {a : Int32} {lo hi : Int} {k : List se_D → se_R} (h : se_cut ds v lo hi k = some l) (he : se_env ty ρ ds) (hv : se_v ρ v = some (.int a)) (h1 : lo ≤ a.toInt) (h2 : a.toInt ≤ hi) : ∃ ds', k ds' = some l ∧ se_env ty ρ ds' := by
  unfold se_cut at h
  split at h
  · exact ⟨ds, h, he⟩
  · next hv1 =>
    split at h
    · next kd p q e' hd =>
      obtain ⟨n, g1, rfl⟩ := se_v_lin he hv hv1
      obtain ⟨w, g2, g3⟩ := he.2 _ _ hd
      rw [g1] at g2
      cases g2
      have hk : kd = 0 := by
        have := se_isInt he hv
        unfold se_kd at this
        rw [if_neg hv1, hd] at this
        exact this
      subst hk
      obtain ⟨n', en, n1, n2⟩ := g3.1
      cases en
      have n1 : p ≤ n.toInt := n1
      have n2 : n.toInt ≤ q := n2
      split at h
      · next q1 =>
        have q1 := se_le_iff.mp q1
        have q1 : 0 < v.1 := by omega
        split at h
        · next hin =>
          have hin := se_in_iff hin
          have e1 := Int.mul_le_mul_of_nonneg_left n1 (Int.le_of_lt q1)
          have e2 := Int.mul_le_mul_of_nonneg_left n2 (Int.le_of_lt q1)
          rw [se_ofInt (by omega) (by omega)] at h1 h2
          refine se_nrw_ok h he hd g1 ?_ ?_
          · have : -n.toInt ≤ (v.2.2 - lo) / v.1 := (Int.le_ediv_iff_mul_le q1).mpr (by rw [Int.neg_mul, Int.mul_comm]; omega)
            omega
          · exact (Int.le_ediv_iff_mul_le q1).mpr (by rw [Int.mul_comm]; omega)
        · exact ⟨ds, h, he⟩
      · next q1 =>
        have q1 : v.1 < 0 := by
          apply Classical.byContradiction
          intro z
          exact q1 (se_le_iff.mpr (by omega))
        have q2 : 0 < -v.1 := by omega
        split at h
        · next hin =>
          have hin := se_in_iff hin
          have e1 := Int.mul_le_mul_of_nonpos_left (Int.le_of_lt q1) n1
          have e2 := Int.mul_le_mul_of_nonpos_left (Int.le_of_lt q1) n2
          rw [se_ofInt (by omega) (by omega)] at h1 h2
          refine se_nrw_ok h he hd g1 ?_ ?_
          · have : -n.toInt ≤ (hi - v.2.2) / (-v.1) := (Int.le_ediv_iff_mul_le q2).mpr (by rw [Int.neg_mul_neg, Int.mul_comm]; omega)
            omega
          · exact (Int.le_ediv_iff_mul_le q2).mpr (by rw [Int.mul_neg, Int.mul_comm]; omega)
        · exact ⟨ds, h, he⟩
    · exact ⟨ds, h, he⟩
theorem se_side_ok {c : Jvm.ClassFile.Cond} {a b : Int32} {l1 h1 l2 h2 : Int} (h : mm_P2 c a b = true) (a1 : l1 ≤ a.toInt) (a2 : a.toInt ≤ h1) (b1 : l2 ≤ b.toInt) (b2 : b.toInt ≤ h2) : (se_side c l1 h1 l2 h2).1 ≤ a.toInt ∧ a.toInt ≤ (se_side c l1 h1 l2 h2).2 := by
  cases c with
  | lt =>
    have h : a.toInt < b.toInt := Int32.lt_iff_toInt_lt.mp (of_decide_eq_true h)
    exact ⟨a1, by show a.toInt ≤ h2 - 1; omega⟩
  | le =>
    have h : a.toInt ≤ b.toInt := Int32.le_iff_toInt_le.mp (of_decide_eq_true h)
    exact ⟨a1, by show a.toInt ≤ h2; omega⟩
  | gt =>
    have h : b.toInt < a.toInt := Int32.lt_iff_toInt_lt.mp (of_decide_eq_true h)
    exact ⟨by show l2 + 1 ≤ a.toInt; omega, a2⟩
  | ge =>
    have h : b.toInt ≤ a.toInt := Int32.le_iff_toInt_le.mp (of_decide_eq_true h)
    exact ⟨by show l2 ≤ a.toInt; omega, a2⟩
  | eq =>
    have h : a = b := by simpa [mm_P2] using h
    subst h
    exact ⟨b1, b2⟩
  | ne =>
    have h : a ≠ b := by simpa [mm_P2] using h
    have h : a.toInt ≠ b.toInt := fun e => h (Int32.toInt_inj.mp e)
    dsimp only [se_side]
    split
    · split
      · exact ⟨by show l1 + 1 ≤ a.toInt; omega, a2⟩
      · split
        · exact ⟨a1, by show a.toInt ≤ h1 - 1; omega⟩
        · exact ⟨a1, a2⟩
    · exact ⟨a1, a2⟩
theorem se_neg_ok {c : Jvm.ClassFile.Cond} {a b : Int32} (h : mm_P2 c a b = false) : mm_P2 (se_neg c) a b = true := by
  cases c <;> simp [mm_P2, se_neg] at h ⊢ <;> first | exact h | (rw [Int32.lt_iff_toInt_lt, Int32.le_iff_toInt_le] at *; omega)
theorem se_way_ok {c : Jvm.ClassFile.Cond} {u v : se_V} {a b : Int32} {k : List se_D → se_R} (h : se_way ds c u v k = some l) (he : se_env ty ρ ds) (hu : se_v ρ u = some (.int a)) (hv : se_v ρ v = some (.int b)) (hc : mm_P2 c a b = true) : ∃ ds', k ds' = some l ∧ se_env ty ρ ds' := by
  obtain ⟨a', ea, a1, a2⟩ := se_int he hu (se_isInt he hu)
  obtain ⟨b', eb, b1, b2⟩ := se_int he hv (se_isInt he hv)
  cases ea; cases eb
  have s1 := se_side_ok hc a1 a2 b1 b2
  have s2 := se_side_ok (c := sx_swp c) (a := b) (b := a) (by rw [sx_swp_P2]; exact hc) b1 b2 a1 a2
  unfold se_way at h
  simp only at h
  split at h
  · obtain ⟨ds1, g1, g2⟩ := se_cut_ok h he hu s1.1 s1.2
    exact se_cut_ok g1 g2 hv s2.1 s2.2
  · next hno =>
    exfalso
    apply hno
    rw [Bool.and_eq_true, se_le_iff, se_le_iff]
    exact ⟨Int.le_trans (se_max_of s1.1 a1) (se_min_of s1.2 a2), Int.le_trans (se_max_of s2.1 b1) (se_min_of s2.2 b2)⟩
theorem se_both_inv {a b : se_R} (h : se_both a b = some l) : ∃ x y, a = some x ∧ b = some y ∧ l = x ++ y := by
  unfold se_both at h
  split at h
  · cases h; exact ⟨_, _, rfl, rfl, rfl⟩
  · cases h
theorem se_pf_cons {c : Jvm.ClassFile.Cond} {u v : se_V} {a b : Int32} (h : se_pf ρ P) (hu : se_v ρ u = some (.int a)) (hv : se_v ρ v = some (.int b)) (hc : mm_P2 c a b = true) : se_pf ρ ((c, u, v) :: P) := by
  intro e he
  rcases List.mem_cons.mp he with rfl | he
  · exact ⟨a, b, hu, hv, hc⟩
  · exact h e he
theorem se_cN_inj {c d : Jvm.ClassFile.Cond} (h : se_cN c = se_cN d) : c = d := by cases c <;> cases d <;> first | rfl | cases h
theorem se_neg_no {c : Jvm.ClassFile.Cond} {a b : Int32} (h : mm_P2 c a b = true) : mm_P2 (se_neg c) a b = false := by
  cases hc : mm_P2 (se_neg c) a b with
  | false => rfl
  | true =>
    exfalso
    cases c <;> simp [mm_P2, se_neg] at h hc <;> first | exact hc h | exact h hc | (simp only [Int32.lt_iff_toInt_lt, Int32.le_iff_toInt_le] at h hc; omega)
theorem se_inP_ok {c : Jvm.ClassFile.Cond} {u v : se_V} {a b : Int32} (hp : se_pf ρ P) (h : se_inP P c u v = true) (hu : se_v ρ u = some (.int a)) (hv : se_v ρ v = some (.int b)) : mm_P2 c a b = true := by
  obtain ⟨e, h1, h2⟩ := List.any_eq_true.mp h
  rw [Bool.and_eq_true, Bool.and_eq_true] at h2
  obtain ⟨x, y, g1, g2, g3⟩ := hp e h1
  rw [se_eq_ok h2.2.1, hu] at g1
  rw [se_eq_ok h2.2.2, hv] at g2
  cases g1
  cases g2
  rw [se_cN_inj (Nat.eq_of_beq_eq_true h2.1)] at g3
  exact g3
theorem se_cmp_ok {c : Jvm.ClassFile.Cond} {u v : se_V} {x z : Value} {kt kf : List se_D → se_P → se_R} (h : se_cmp ds P c u v kt kf = some l) (he : se_env ty ρ ds) (hp : se_pf ρ P) (hu : se_v ρ u = some x) (hv : se_v ρ v = some z) : ∃ a b, x = .int a ∧ z = .int b ∧ ∃ ds' P' l', (if mm_P2 c a b then kt else kf) ds' P' = some l' ∧ (∀ S ∈ l', S ∈ l) ∧ se_env ty ρ ds' ∧ se_pf ρ P' := by
  unfold se_cmp at h
  split at h
  · next e =>
    rw [Bool.and_eq_true] at e
    obtain ⟨a, rfl, _⟩ := se_int he hu (Nat.eq_of_beq_eq_true e.1)
    obtain ⟨b, rfl, _⟩ := se_int he hv (Nat.eq_of_beq_eq_true e.2)
    refine ⟨a, b, rfl, rfl, ?_⟩
    split at h
    · next e2 =>
      rw [← se_v_0 hu e2.1, ← se_v_0 hv e2.2] at h
      refine ⟨ds, P, l, ?_, fun _ h => h, he, hp⟩
      cases hc : mm_P2 c a b with
      | true => rw [hc] at h; exact h
      | false => rw [hc] at h; exact h
    · split at h
      · next e3 =>
        have hc := se_inP_ok hp e3 hu hv
        exact ⟨ds, P, l, by rw [hc]; exact h, fun _ h => h, he, hp⟩
      · split at h
        · next e4 =>
          have hc := se_inP_ok hp e4 hu hv
          have hc2 : mm_P2 c a b = false := by
            cases hq : mm_P2 c a b with
            | false => rfl
            | true =>
              exfalso
              have := se_neg_no hq
              rw [this] at hc
              cases hc
          exact ⟨ds, P, l, by rw [hc2]; exact h, fun _ h => h, he, hp⟩
        · obtain ⟨p, q, g1, g2, rfl⟩ := se_both_inv h
          cases hc : mm_P2 c a b with
          | true =>
            obtain ⟨ds', k1, k2⟩ := se_way_ok g1 he hu hv hc
            exact ⟨ds', _, p, k1, fun S hS => List.mem_append_left _ hS, k2, se_pf_cons hp hu hv hc⟩
          | false =>
            obtain ⟨ds', k1, k2⟩ := se_way_ok g2 he hu hv (se_neg_ok hc)
            exact ⟨ds', _, q, k1, fun S hS => List.mem_append_right _ hS, k2, se_pf_cons hp hu hv (se_neg_ok hc)⟩
  · cases h
theorem se_spl_ok {u : se_V} {w : Value} {kk : List se_D → se_P → se_R} (hu : se_v ρ u = some w) : ∀ {n : Nat} {ds : List se_D} {P : se_P} {l : List se_S}, se_spl ds P u n kk = some l → se_env ty ρ ds → se_pf ρ P → ∃ ds' P' l', kk ds' P' = some l' ∧ (∀ S ∈ l', S ∈ l) ∧ se_env ty ρ ds' ∧ se_pf ρ P'
  | 0, ds, P, l, h, he, hp => ⟨ds, P, l, h, fun _ h => h, he, hp⟩
  | n + 1, ds, P, l, h, he, hp => by
    unfold se_spl at h
    obtain ⟨a, b, -, -, ds', P', l', k1, k2, k3, k4⟩ := se_cmp_ok h he hp hu (se_v_c ρ 0 _)
    cases hc : mm_P2 .eq a b with
    | true =>
      rw [hc] at k1
      exact ⟨ds', P', l', k1, k2, k3, k4⟩
    | false =>
      rw [hc] at k1
      obtain ⟨ds2, P2, l2, g1, g2, g3, g4⟩ := se_spl_ok hu (n := n) k1 k3 k4
      exact ⟨ds2, P2, l2, g1, fun S hS => k2 S (g2 S hS), g3, g4⟩
theorem se_top_ok {st : List se_V} {sc : List Value} (hst : sx_r2 (se_sv ρ) st sc) : ∃ w, se_v ρ (se_top st) = some w := by
  cases st with
  | nil => exact ⟨_, se_v_c ρ 0 0⟩
  | cons i st =>
    cases sc with
    | nil => exact hst.elim
    | cons w sc => exact ⟨w, hst.1⟩
theorem se_sw_ok {u : se_V} {x : Value} {dflt lo : Int} {offs : Array Int} {kk : Int → List se_D → se_P → se_R} (hu : se_v ρ u = some x) (hk : ∃ a, x = .int a) : ∀ {n : Nat} {ds : List se_D} {P : se_P} {l : List se_S}, se_in lo (lo + (n : Int) - 1) = true → se_sw ds P u dflt lo n offs kk = some l → se_env ty ρ ds → se_pf ρ P → ∃ a off, x = .int a ∧ (∃ ds' P' l', kk off ds' P' = some l' ∧ (∀ S ∈ l', S ∈ l) ∧ se_env ty ρ ds' ∧ se_pf ρ P') ∧ ((∃ j : Nat, j < n ∧ a.toInt = lo + (j : Int) ∧ offs[j]? = some off) ∨ ((∀ j : Nat, j < n → a.toInt ≠ lo + (j : Int)) ∧ off = dflt))
  | 0, ds, P, l, _, h, he, hp => by
    obtain ⟨a, ha⟩ := hk
    exact ⟨a, dflt, ha, ⟨ds, P, l, h, fun _ h => h, he, hp⟩, Or.inr ⟨fun j hj => absurd hj (Nat.not_lt_zero _), rfl⟩⟩
  | n + 1, ds, P, l, hin, h, he, hp => by
    have hin' := se_in_iff hin
    unfold se_sw at h
    split at h
    · next off ho =>
      obtain ⟨a, b, rfl, eb, ds', P', l', k1, k2, k3, k4⟩ := se_cmp_ok h he hp hu (se_v_c ρ 0 _)
      cases eb
      cases hc : mm_P2 .eq a (Int32.ofInt (lo + (n : Int))) with
      | true =>
        rw [hc] at k1
        have ha : a = Int32.ofInt (lo + (n : Int)) := by simpa [mm_P2] using hc
        refine ⟨a, off, rfl, ⟨ds', P', l', k1, k2, k3, k4⟩, Or.inl ⟨n, Nat.lt_succ_self n, ?_, ho⟩⟩
        rw [ha]
        exact se_ofInt (by omega) (by omega)
      | false =>
        rw [hc] at k1
        have ha : a ≠ Int32.ofInt (lo + (n : Int)) := by simpa [mm_P2] using hc
        have ha2 : a.toInt ≠ lo + (n : Int) := fun e => ha (by rw [← e, Int32.ofInt_toInt])
        have hin2 : se_in lo (lo + (n : Int) - 1) = true := by
          unfold se_in
          rw [Bool.and_eq_true, se_le_iff, se_le_iff]
          omega
        obtain ⟨a', off', ea, ⟨ds2, P2, l2, m1, m2, m3, m4⟩, q⟩ := se_sw_ok hu ⟨a, rfl⟩ hin2 k1 k3 k4
        cases ea
        refine ⟨a, off', rfl, ⟨ds2, P2, l2, m1, fun S hS => k2 S (m2 S hS), m3, m4⟩, ?_⟩
        rcases q with ⟨j, j1, j2, j3⟩ | ⟨j1, j2⟩
        · exact Or.inl ⟨j, by omega, j2, j3⟩
        · refine Or.inr ⟨fun j hj => ?_, j2⟩
          by_cases ej : j = n
          · rw [ej]; exact ha2
          · exact j1 j (by omega)
    · cases h
end SEH
