/-! ===== two long loops of the reference, at once ===== -/
theorem sx_gl_set {env : Nat → Int32} {lv : List (Option sx_V)} {lc : List (Nat × Value)} {i : Nat} {v : sx_V} {w : Value} (h1 : sx_gl env lv lc) (hg : sx_g env v w) (h2 : ∀ j u, j + 1 = i → lv[j]? = some (some u) → sx_is2 u = false) : sx_gl env (lv.set i (some v)) (mm_l1 lc i w) := by
  intro j u hj
  by_cases e : i = j
  · subst e
    rw [List.getElem?_set] at hj
    simp only [if_true] at hj
    split at hj
    · cases hj; exact ⟨w, mm_lget_l1s, hg⟩
    · cases hj
  · rw [List.getElem?_set_ne e] at hj
    obtain ⟨x, g1, g2⟩ := h1 j u hj
    refine ⟨x, mm_lget_l1 g1 (fun q => e q.symm) (fun q => ?_), g2⟩
    have := sx_cat_isL g2 (h2 j u q.1 hj)
    omega
theorem sx_nI_inc (i : Nat) : nI i + Int32.ofInt 1 = nI (i + 1) := by
  rw [show Int32.ofInt 1 = (1 : Int32) by decide]
  exact nI_1 i
theorem sx_geF {i N : Nat} (h : i < N) (hN : N < 2 ^ 31) : mm_P2 .ge (nI i) (nI N) = false := by
  show decide (nI N ≤ nI i) = false
  exact decide_eq_false (nI_ge h hN)
theorem sx_geT {N : Nat} : mm_P2 .ge (nI N) (nI N) = true := by
  show decide (nI N ≤ nI N) = true
  simp
theorem mm_set_self {α : Type} {l : List α} {i : Nat} {a : α} (h : l[i]? = some a) : l.set i a = l := by
  apply List.ext_getElem?
  intro j
  by_cases e : i = j
  · subst e
    rw [List.getElem?_set_self (List.getElem?_eq_some_iff.mp h).1, h]
  · rw [List.getElem?_set_ne e]
section SXL
variable {kx : Nat} {zs : List mm_Zt} {P : mm_S → Prop} {env : Nat → Int32} {Kc : List mm_Fr} {d cb sb : Nat}
/-- for (k = 0; k < 4096; k++) lostOf[k] = -1 -/
theorem sx_fill {lv : List (Option sx_V)} {m q : Nat} {ws : List Value} (hlv : lv.length = 8) (h0 : lv[0]? = some (some (.inl (.ref m)))) (h3 : ∀ u, lv[3]? = some (some u) → sx_is2 u = false) (hw : ws[19]? = some (.ref q)) (hq : kx ≤ q) (hqm : q ≠ m) : ∀ (r i : Nat), i + r = 4096 → ∀ (lc : List (Nat × Value)) (mc : List mm_C) (xs : List Value), sx_gl env (lv.set 4 (some (.inl (.int (nI i))))) lc → mc[m]? = some (.inr (12, ws)) → mc[q]? = some (.inl (.int, xs)) → xs.length = 4096 → (∀ j, j < i → xs[j]? = some (.int (-1))) →
    (∀ (lc' : List (Nat × Value)) (xs' : List Value), sx_gl env (lv.set 4 (some (.inl (.int (nI 4096))))) lc' → xs'.length = 4096 → (∀ j, j < 4096 → xs'[j]? = some (.int (-1))) → mm_T kx zs P Kc d (sx_fi 316) (48, lc', [], mc.set q (.inl (.int, xs')), cb, sb)) → mm_T kx zs P Kc d (sx_fi 316) (26, lc, [], mc, cb, sb) := by
  have dec : ∀ e ∈ sx_c316, decode (sx_fi 316).2.1 e.1 = .ok (e.2.1, e.2.2.1) ∧ sx_chk (sx_fi 316).1 (sx_fi 316).2.1 e = true := fun e he => sx_dec (y := 316) (full := sx_c316) rfl he
  have d26 := (dec _ (List.mem_of_getElem? (i := 14) rfl)).1
  have d28 := (dec _ (List.mem_of_getElem? (i := 15) rfl)).1
  have d31 := (dec _ (List.mem_of_getElem? (i := 16) rfl)).1
  have d34 := (dec _ (List.mem_of_getElem? (i := 17) rfl)).1
  have d35 := dec _ (List.mem_of_getElem? (i := 18) rfl)
  obtain ⟨pl35, hlk35⟩ := sx_pl_ok (sx_ckp d35.2 rfl) (by decide)
  replace d35 := d35.1
  have d38 := (dec _ (List.mem_of_getElem? (i := 19) rfl)).1
  have d40 := (dec _ (List.mem_of_getElem? (i := 20) rfl)).1
  have d41 := (dec _ (List.mem_of_getElem? (i := 21) rfl)).1
  have d42 := (dec _ (List.mem_of_getElem? (i := 22) rfl)).1
  have d45 := (dec _ (List.mem_of_getElem? (i := 23) rfl)).1
  have hnL : (sx_fi 316).2.2.1 = 8 := rfl
  have t31 : mm_tgt 31 17 = some 48 := rfl
  have t45 : mm_tgt 45 (-19) = some 26 := rfl
  intro r
  induction r with
  | zero =>
    intro i hi lc mc xs hgl hm hx hxl hxs hex
    have hi : i = 4096 := by omega
    subst hi
    obtain ⟨w, hk, hg⟩ := hgl 4 _ (List.getElem?_set_self (by omega))
    cases hg
    refine mm_T_step (σ' := (28, lc, [.int (nI 4096)], mc, cb, sb)) d26 rfl (by simp [mm_stp, mm_pure, mm_ldi, hk]) ?_
    refine mm_T_step (σ' := (31, lc, [.int (nI 4096), .int (nI 4096)], mc, cb, sb)) d28 rfl rfl ?_
    refine mm_T_step (σ' := (48, lc, [], mc, cb, sb)) d31 rfl (by simp [mm_stp, mm_pure, mm_if2, t31, sx_geT]) ?_
    have := hex lc xs hgl hxl hxs
    rw [mm_set_self hx] at this
    exact this
  | succ r ih =>
    intro i hi lc mc xs hgl hm hx hxl hxs hex
    obtain ⟨w, hk, hg⟩ := hgl 4 _ (List.getElem?_set_self (by omega))
    cases hg
    obtain ⟨w0, hk0, hg0⟩ := hgl 0 _ (by rw [List.getElem?_set_ne (by decide)]; exact h0)
    cases hg0
    have hin : ¬ (nI i < 0 ∨ xs.length ≤ (nI i).toNatClampNeg) := by rw [hxl]; exact nI_in (by omega) (by decide)
    have hcl : (nI i).toNatClampNeg = i := nI_clamp (by omega)
    refine mm_T_step (σ' := (28, lc, [.int (nI i)], mc, cb, sb)) d26 rfl (by simp [mm_stp, mm_pure, mm_ldi, hk]) ?_
    refine mm_T_step (σ' := (31, lc, [.int (nI 4096), .int (nI i)], mc, cb, sb)) d28 rfl rfl ?_
    refine mm_T_step (σ' := (34, lc, [], mc, cb, sb)) d31 rfl (by simp [mm_stp, mm_pure, mm_if2, t31, sx_geF (show i < 4096 by omega)]) ?_
    refine mm_T_step (σ' := (35, lc, [.ref m], mc, cb, sb)) d34 rfl (by simp [mm_stp, mm_pure, mm_lda, hk0]) ?_
    refine mm_T_step (σ' := (38, lc, [.ref q], mc, cb, sb)) d35 rfl (by rw [mm_stp_m rfl]; unfold mm_mem; dsimp only; unfold mm_getS; dsimp only; rw [hlk35, hm]; dsimp only; rw [if_pos ⟨rfl, rfl, Or.inl rfl, rfl⟩, hw]; rfl) ?_
    refine mm_T_step (σ' := (40, lc, [.int (nI i), .ref q], mc, cb, sb)) d38 rfl (by simp [mm_stp, mm_pure, mm_ldi, hk]) ?_
    refine mm_T_step (σ' := (41, lc, [.int (-1), .int (nI i), .ref q], mc, cb, sb)) d40 rfl rfl ?_
    refine mm_T_step (σ' := (42, lc, [], mc.set q (.inl (.int, xs.set i (.int (-1)))), cb, sb)) d41 rfl (by rw [mm_stp_m rfl]; unfold mm_mem; dsimp only; unfold mm_astS; dsimp only; rw [hx]; dsimp only; rw [if_pos ⟨rfl, rfl, hq, hin⟩, hcl]; rfl) ?_
    refine mm_T_step (σ' := (45, mm_l1 lc 4 (.int (nI (i + 1))), [], mc.set q (.inl (.int, xs.set i (.int (-1)))), cb, sb)) d42 rfl (by simp [mm_stp, mm_pure, mm_inc, hk, hnL, nI_1]) ?_
    refine mm_T_step (σ' := (26, mm_l1 lc 4 (.int (nI (i + 1))), [], mc.set q (.inl (.int, xs.set i (.int (-1)))), cb, sb)) d45 rfl (by simp [mm_stp, mm_pure, mm_go, t45]) ?_
    have hql : q < mc.length := (List.getElem?_eq_some_iff.mp hx).1
    refine ih (i + 1) (by omega) _ _ (xs.set i (.int (-1))) ?_ (by rw [List.getElem?_set_ne hqm]; exact hm) (List.getElem?_set_self hql) (by simpa using hxl) (fun j hj => ?_) (fun lc' xs' g1 g2 g3 => ?_)
    · have := sx_gl_set (v := .inl (.int (nI (i + 1)))) (w := .int (nI (i + 1))) (i := 4) hgl rfl (fun j u e hj => by
        have : j = 3 := by omega
        subst this
        rw [List.getElem?_set_ne (by decide)] at hj
        exact h3 u hj)
      rw [List.set_set] at this
      exact this
    · by_cases e : i = j
      · subst e; exact List.getElem?_set_self (by omega)
      · rw [List.getElem?_set_ne e]; exact hxs j (by omega)
    · rw [List.set_set]; exact hex lc' xs' g1 g2 g3
/-- for (k = 0; k < 2973; k++) kept[k] = now[k] -/
theorem sx_copy {lv : List (Option sx_V)} {m q s : Nat} {ws zs0 : List Value} (hlv : lv.length = 2) (h0 : lv[0]? = some (some (.inl (.ref m)))) (hw : ws[1]? = some (.ref q)) (hws : ws[0]? = some (.ref s)) (hq : kx ≤ q) (hqm : q ≠ m) (hqs : q ≠ s) (hzl : zs0.length = 2973) (hzi : ∀ j, j < 2973 → ∃ x : Int32, zs0[j]? = some (.int x)) : ∀ (r i : Nat), i + r = 2973 → ∀ (lc : List (Nat × Value)) (mc : List mm_C) (xs : List Value), sx_gl env (lv.set 1 (some (.inl (.int (nI i))))) lc → mc[m]? = some (.inr (12, ws)) → mc[s]? = some (.inl (.int, zs0)) → mc[q]? = some (.inl (.int, xs)) → xs.length = 2973 → (∀ j, j < i → xs[j]? = zs0[j]?) →
    (∀ (lc' : List (Nat × Value)), sx_gl env (lv.set 1 (some (.inl (.int (nI 2973))))) lc' → mm_T kx zs P Kc d (sx_fi 327) (27, lc', [], mc.set q (.inl (.int, zs0)), cb, sb)) → mm_T kx zs P Kc d (sx_fi 327) (2, lc, [], mc, cb, sb) := by
  have dec : ∀ e ∈ sx_c327, decode (sx_fi 327).2.1 e.1 = .ok (e.2.1, e.2.2.1) ∧ sx_chk (sx_fi 327).1 (sx_fi 327).2.1 e = true := fun e he => sx_dec (y := 327) (full := sx_c327) rfl he
  have d2 := (dec _ (List.mem_of_getElem? (i := 2) rfl)).1
  have d3 := (dec _ (List.mem_of_getElem? (i := 3) rfl)).1
  have d6 := (dec _ (List.mem_of_getElem? (i := 4) rfl)).1
  have d9 := (dec _ (List.mem_of_getElem? (i := 5) rfl)).1
  have d10 := dec _ (List.mem_of_getElem? (i := 6) rfl)
  obtain ⟨pl10, hlk10⟩ := sx_pl_ok (sx_ckp d10.2 rfl) (by decide)
  replace d10 := d10.1
  have d13 := (dec _ (List.mem_of_getElem? (i := 7) rfl)).1
  have d14 := (dec _ (List.mem_of_getElem? (i := 8) rfl)).1
  have d15 := dec _ (List.mem_of_getElem? (i := 9) rfl)
  obtain ⟨pl15, hlk15⟩ := sx_pl_ok (sx_ckp d15.2 rfl) (by decide)
  replace d15 := d15.1
  have d18 := (dec _ (List.mem_of_getElem? (i := 10) rfl)).1
  have d19 := (dec _ (List.mem_of_getElem? (i := 11) rfl)).1
  have d20 := (dec _ (List.mem_of_getElem? (i := 12) rfl)).1
  have d21 := (dec _ (List.mem_of_getElem? (i := 13) rfl)).1
  have d24 := (dec _ (List.mem_of_getElem? (i := 14) rfl)).1
  have hnL : (sx_fi 327).2.2.1 = 2 := rfl
  have t6 : mm_tgt 6 21 = some 27 := rfl
  have t24 : mm_tgt 24 (-22) = some 2 := rfl
  intro r
  induction r with
  | zero =>
    intro i hi lc mc xs hgl hm hs hx hxl hxs hex
    have hi : i = 2973 := by omega
    subst hi
    obtain ⟨w, hk, hg⟩ := hgl 1 _ (List.getElem?_set_self (by omega))
    cases hg
    refine mm_T_step (σ' := (3, lc, [.int (nI 2973)], mc, cb, sb)) d2 rfl (by simp [mm_stp, mm_pure, mm_ldi, hk]) ?_
    refine mm_T_step (σ' := (6, lc, [.int (nI 2973), .int (nI 2973)], mc, cb, sb)) d3 rfl rfl ?_
    refine mm_T_step (σ' := (27, lc, [], mc, cb, sb)) d6 rfl (by simp [mm_stp, mm_pure, mm_if2, t6, sx_geT]) ?_
    have hxe : xs = zs0 := by
      apply List.ext_getElem?
      intro j
      by_cases hj : j < 2973
      · exact hxs j hj
      · rw [List.getElem?_eq_none (by omega), List.getElem?_eq_none (by omega)]
    have := hex lc hgl
    rw [← hxe, mm_set_self hx] at this
    exact this
  | succ r ih =>
    intro i hi lc mc xs hgl hm hs hx hxl hxs hex
    obtain ⟨w, hk, hg⟩ := hgl 1 _ (List.getElem?_set_self (by omega))
    cases hg
    obtain ⟨w0, hk0, hg0⟩ := hgl 0 _ (by rw [List.getElem?_set_ne (by decide)]; exact h0)
    cases hg0
    have hin : ¬ (nI i < 0 ∨ xs.length ≤ (nI i).toNatClampNeg) := by rw [hxl]; exact nI_in (by omega) (by decide)
    have hin2 : ¬ (nI i < 0 ∨ zs0.length ≤ (nI i).toNatClampNeg) := by rw [hzl]; exact nI_in (by omega) (by decide)
    have hcl : (nI i).toNatClampNeg = i := nI_clamp (by omega)
    obtain ⟨x, hx0⟩ := hzi i (by omega)
    refine mm_T_step (σ' := (3, lc, [.int (nI i)], mc, cb, sb)) d2 rfl (by simp [mm_stp, mm_pure, mm_ldi, hk]) ?_
    refine mm_T_step (σ' := (6, lc, [.int (nI 2973), .int (nI i)], mc, cb, sb)) d3 rfl rfl ?_
    refine mm_T_step (σ' := (9, lc, [], mc, cb, sb)) d6 rfl (by simp [mm_stp, mm_pure, mm_if2, t6, sx_geF (show i < 2973 by omega)]) ?_
    refine mm_T_step (σ' := (10, lc, [.ref m], mc, cb, sb)) d9 rfl (by simp [mm_stp, mm_pure, mm_lda, hk0]) ?_
    refine mm_T_step (σ' := (13, lc, [.ref q], mc, cb, sb)) d10 rfl (by rw [mm_stp_m rfl]; unfold mm_mem; dsimp only; unfold mm_getS; dsimp only; rw [hlk10, hm]; dsimp only; rw [if_pos ⟨rfl, rfl, Or.inl rfl, rfl⟩, hw]; rfl) ?_
    refine mm_T_step (σ' := (14, lc, [.int (nI i), .ref q], mc, cb, sb)) d13 rfl (by simp [mm_stp, mm_pure, mm_ldi, hk]) ?_
    refine mm_T_step (σ' := (15, lc, [.ref m, .int (nI i), .ref q], mc, cb, sb)) d14 rfl (by simp [mm_stp, mm_pure, mm_lda, hk0]) ?_
    refine mm_T_step (σ' := (18, lc, [.ref s, .int (nI i), .ref q], mc, cb, sb)) d15 rfl (by rw [mm_stp_m rfl]; unfold mm_mem; dsimp only; unfold mm_getS; dsimp only; rw [hlk15, hm]; dsimp only; rw [if_pos ⟨rfl, rfl, Or.inl rfl, rfl⟩, hws]; rfl) ?_
    refine mm_T_step (σ' := (19, lc, [.int (nI i), .ref s, .int (nI i), .ref q], mc, cb, sb)) d18 rfl (by simp [mm_stp, mm_pure, mm_ldi, hk]) ?_
    refine mm_T_step (σ' := (20, lc, [.int x, .int (nI i), .ref q], mc, cb, sb)) d19 rfl (by rw [mm_stp_m rfl]; unfold mm_mem; dsimp only; unfold mm_aldS; dsimp only; rw [hs]; dsimp only; rw [if_pos ⟨rfl, by decide, hin2⟩, hcl, hx0]; rfl) ?_
    refine mm_T_step (σ' := (21, lc, [], mc.set q (.inl (.int, xs.set i (.int x))), cb, sb)) d20 rfl (by rw [mm_stp_m rfl]; unfold mm_mem; dsimp only; unfold mm_astS; dsimp only; rw [hx]; dsimp only; rw [if_pos ⟨rfl, rfl, hq, hin⟩, hcl]; rfl) ?_
    refine mm_T_step (σ' := (24, mm_l1 lc 1 (.int (nI (i + 1))), [], mc.set q (.inl (.int, xs.set i (.int x))), cb, sb)) d21 rfl (by simp [mm_stp, mm_pure, mm_inc, hk, hnL, nI_1]) ?_
    refine mm_T_step (σ' := (2, mm_l1 lc 1 (.int (nI (i + 1))), [], mc.set q (.inl (.int, xs.set i (.int x))), cb, sb)) d24 rfl (by simp [mm_stp, mm_pure, mm_go, t24]) ?_
    have hql : q < mc.length := (List.getElem?_eq_some_iff.mp hx).1
    refine ih (i + 1) (by omega) _ _ (xs.set i (.int x)) ?_ (by rw [List.getElem?_set_ne hqm]; exact hm) (by rw [List.getElem?_set_ne hqs]; exact hs) (List.getElem?_set_self hql) (by simpa using hxl) (fun j hj => ?_) (fun lc' g1 => ?_)
    · have := sx_gl_set (v := .inl (.int (nI (i + 1)))) (w := .int (nI (i + 1))) (i := 1) hgl rfl (fun j u e hj => by
        have : j = 0 := by omega
        subst this
        rw [List.getElem?_set_ne (by decide), h0] at hj
        cases hj
        rfl)
      rw [List.set_set] at this
      exact this
    · by_cases e : i = j
      · subst e; rw [hx0]; exact List.getElem?_set_self (by omega)
      · rw [List.getElem?_set_ne e]; exact hxs j (by omega)
    · rw [List.set_set]; exact hex lc' g1
end SXL
