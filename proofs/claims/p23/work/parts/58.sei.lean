/-! ===== runs from cut to cut: locals, arguments, fields, calls ===== -/
theorem mm_lget_l2 {lc : List (Nat × Value)} {i j : Nat} {v w : Value} (hw : mm_lget lc j = some w) (hj : j ≠ i) (hj2 : j ≠ i + 1) (hc : ¬ (j + 1 = i ∧ w.category = 2)) : mm_lget (mm_l2 lc i v) j = some w := by
  unfold mm_lget at hw ⊢
  obtain ⟨q, h1, rfl⟩ := Option.map_eq_some_iff.mp hw
  have h2 := List.find?_some h1
  simp at h2
  unfold mm_l2
  rw [List.find?_cons_of_neg (by simpa using fun e => hj e.symm), mm_find_and h1]
  · rfl
  · rw [h2]
    simp only [Bool.and_eq_true, Bool.not_eq_true', beq_eq_false_iff_ne, Bool.and_eq_false_imp, beq_iff_eq]
    exact ⟨hj, hj2, fun e => by
      have := fun q => hc ⟨e, q⟩
      simpa using this⟩
theorem mm_lget_l2s {lc : List (Nat × Value)} {i : Nat} {v : Value} : mm_lget (mm_l2 lc i v) i = some v := by
  unfold mm_lget mm_l2
  rw [List.find?_cons_of_pos (by simp)]
  rfl
section SEJ
variable {kx : Nat} {zs : List mm_Zt} {Q : mm_S → Prop} {ρ0 : List Value} {d : Nat}
variable {ty : Nat → Option Nat} {tt : Nat → se_Ty} {W Z : se_W} {tw : Nat} {J : List mm_C → Prop} {m0 : List mm_C} {ρ : List Value} {ds : List se_D} {y : Nat} {full tl : List sx_I} {lv : List (Option se_V)} {st : List se_V} {pc : Nat} {lc : List (Nat × Value)} {sc : List Value} {cb sb : Nat} {M : se_M} {K : List se_F} {Kc : List mm_Fr} {P : se_P} {L : Option se_M} {mc : List mm_C} {l : List se_S}
theorem se_go_ok (h : se_go ds M y full tl lv st K P L pc = some l) (hG : ∀ S ∈ l, se_Good ty tt W J m0 kx zs Q ρ0 d S) (hρ : ρ0 <+: ρ) (he : se_env ty ρ ds) (hfull : sx_cods[y]? = some full) (htl : ∀ e ∈ tl, e ∈ full) (hlen : lv.length = (sx_fi y).2.2.1) (hgl : se_gl ρ lv lc) (hst : sx_r2 (se_sv ρ) st sc) (hX : se_X ty tt W J m0 ρ y M K Kc P L mc) : mm_T kx zs Q Kc (d - K.length) (sx_fi y) (pc, lc, sc, mc, cb, sb) := by
  unfold se_go at h
  rw [sx_nK_eq] at h
  obtain ⟨cs, h1, h2, h3⟩ := sx_nx_inv h htl
  cases h1
  exact hG _ List.mem_cons_self ρ hρ pc lc sc mc Kc cb sb he ⟨hfull, h2, h3, hlen, hgl, hst⟩ hX
theorem se_pre (hρ : ρ0 <+: ρ) (δ : List Value) : ρ0 <+: ρ ++ δ := List.IsPrefix.trans hρ (List.prefix_append _ _)
theorem se_ld_ok (hgl : se_gl ρ lv lc) {i : Nat} {v : se_V} (h : se_ld lv i = some v) : ∃ x, mm_lget lc i = some x ∧ se_v ρ v = some x := by
  unfold se_ld at h
  split at h
  · next e => cases h; exact hgl i _ e
  · cases h
theorem se_l1_key {lv1 : List (Option se_V)} {i : Nat} {v : se_V} {w : Value} (he : se_env ty ρ ds) (h1 : se_gl ρ lv1 lc) (h2 : ∀ j u, j + 1 = i → lv1[j]? = some (some u) → Nat.beq (se_kd ds u) 1 = false) (hg : se_v ρ v = some w) : se_gl ρ (lv1.set i (some v)) (mm_l1 lc i w) := by
  intro j u hj
  by_cases e : i = j
  · subst e
    rw [List.getElem?_set] at hj
    simp only [if_true] at hj
    split at hj
    · cases hj; exact ⟨w, mm_lget_l1s, hg⟩
    · cases hj
  · rw [List.getElem?_set_ne e] at hj
    obtain ⟨x, g1, g2⟩ := h1 j u hj
    refine ⟨x, mm_lget_l1 g1 (fun q => e q.symm) (fun q => ?_), g2⟩
    have := se_catne he g2 (h2 j u q.1 hj)
    omega
theorem se_l2_key {lv1 : List (Option se_V)} {i : Nat} {v : se_V} {w : Value} (he : se_env ty ρ ds) (h1 : se_gl ρ lv1 lc) (h2 : ∀ j u, j + 1 = i → lv1[j]? = some (some u) → Nat.beq (se_kd ds u) 1 = false) (hg : se_v ρ v = some w) : se_gl ρ ((lv1.set i (some v)).set (i + 1) none) (mm_l2 lc i w) := by
  intro j u hj
  by_cases e1 : i + 1 = j
  · subst e1
    rw [List.getElem?_set] at hj
    simp only [if_true] at hj
    split at hj <;> cases hj
  · rw [List.getElem?_set_ne e1] at hj
    by_cases e : i = j
    · subst e
      rw [List.getElem?_set] at hj
      simp only [if_true] at hj
      split at hj
      · cases hj; exact ⟨w, mm_lget_l2s, hg⟩
      · cases hj
    · rw [List.getElem?_set_ne e] at hj
      obtain ⟨x, g1, g2⟩ := h1 j u hj
      refine ⟨x, mm_lget_l2 g1 (fun q => e q.symm) (fun q => e1 q.symm) (fun q => ?_), g2⟩
      have := se_catne he g2 (h2 j u q.1 hj)
      omega
/-- the locals that a store leaves, before its own -/
theorem se_lK_ok {β : Type} {i : Nat} {v : se_V} {k : List (Option se_V) → Option β} {r : β} (h : se_l1K ds lv i v k = some r) (hgl : se_gl ρ lv lc) : ∃ lv1, k (lv1.set i (some v)) = some r ∧ lv1.length = lv.length ∧ se_gl ρ lv1 lc ∧ ∀ j u, j + 1 = i → lv1[j]? = some (some u) → Nat.beq (se_kd ds u) 1 = false := by
  unfold se_l1K at h
  split at h
  · rw [sx_setK_eq] at h
    exact ⟨lv, h, rfl, hgl, fun j u e => by omega⟩
  · next i =>
    split at h
    · next u e1 =>
      split at h
      · next e2 =>
        rw [sx_setK_eq, sx_setK_eq] at h
        refine ⟨lv.set i none, h, by simp, fun j u' hj => ?_, fun j u' e hj => ?_⟩
        · by_cases e : i = j
          · subst e
            rw [List.getElem?_set] at hj
            simp only [if_true] at hj
            split at hj <;> cases hj
          · rw [List.getElem?_set_ne e] at hj
            exact hgl j u' hj
        · have : i = j := by omega
          subst this
          rw [List.getElem?_set] at hj
          simp only [if_true] at hj
          split at hj <;> cases hj
      · next e2 =>
        rw [sx_setK_eq] at h
        refine ⟨lv, h, rfl, hgl, fun j u' e hj => ?_⟩
        have : i = j := by omega
        subst this
        rw [e1] at hj
        cases hj
        exact Bool.eq_false_iff.mpr e2
    · next e1 =>
      rw [sx_setK_eq] at h
      refine ⟨lv, h, rfl, hgl, fun j u' e hj => ?_⟩
      have : i = j := by omega
      subst this
      exact absurd hj (fun q => e1 _ q)
theorem se_l1K_ok {β : Type} {i : Nat} {v : se_V} {w : Value} {k : List (Option se_V) → Option β} {r : β} (h : se_l1K ds lv i v k = some r) (he : se_env ty ρ ds) (hgl : se_gl ρ lv lc) (hg : se_v ρ v = some w) : ∃ lv', k lv' = some r ∧ lv'.length = lv.length ∧ se_gl ρ lv' (mm_l1 lc i w) := by
  obtain ⟨lv1, k1, k2, k3, k4⟩ := se_lK_ok h hgl
  exact ⟨_, k1, by simp [k2], se_l1_key he k3 k4 hg⟩
theorem se_l2K_ok {β : Type} {i : Nat} {v : se_V} {w : Value} {k : List (Option se_V) → Option β} {r : β} (h : se_l2K ds lv i v k = some r) (he : se_env ty ρ ds) (hgl : se_gl ρ lv lc) (hg : se_v ρ v = some w) : ∃ lv', k lv' = some r ∧ lv'.length = lv.length ∧ se_gl ρ lv' (mm_l2 lc i w) := by
  unfold se_l2K at h
  obtain ⟨lv1, k1, k2, k3, k4⟩ := se_lK_ok h hgl
  rw [sx_setK_eq] at k1
  exact ⟨_, k1, by simp [k2], se_l2_key he k3 k4 hg⟩
theorem se_cats_ok (he : se_env ty ρ ds) : ∀ {st : List se_V} {sc : List Value}, sx_r2 (se_sv ρ) st sc → (sc.map fun v => v.category).sum = se_cats ds st
  | [], [], _ => rfl
  | v :: st, w :: sc, h => by
    have ih := se_cats_ok he h.2
    unfold se_cats at ih ⊢
    simp only [List.map_cons, List.sum_cons]
    rw [ih, se_cat_ok he h.1]
  | [], _ :: _, h => h.elim
  | _ :: _, [], h => h.elim
theorem se_args_len (he : se_env ty ρ ds) : ∀ {vs : List se_V} {As : List Value}, sx_r2 (se_sv ρ) vs As → (lg_sl As).length = (se_args ds vs).length
  | [], [], _ => rfl
  | v :: vs, w :: As, h => by
    have ih := se_args_len he h.2
    simp only [lg_sl, List.flatMap_cons, List.length_append] at ih ⊢
    unfold se_args
    cases hL : Nat.beq (se_kd ds v) 1 with
    | true => rw [se_cat2 he h.1 hL, if_pos rfl, if_pos rfl]; simp only [List.length_cons, List.length_nil]; omega
    | false => rw [se_catne he h.1 hL, if_neg (by decide), if_neg (by decide)]; simp only [List.length_cons, List.length_nil]; omega
  | [], _ :: _, h => h.elim
  | _ :: _, [], h => h.elim
theorem se_args_gl (he : se_env ty ρ ds) : ∀ {vs : List se_V} {As : List Value}, sx_r2 (se_sv ρ) vs As → ∀ (k i : Nat) (v : se_V), (se_args ds vs)[i]? = some (some v) → ∃ x, mm_lget (lv_args k As) (k + i) = some x ∧ se_v ρ v = some x
  | [], [], _, k, i, v, h => by simp [se_args] at h
  | u :: vs, w :: As, hr, k, i, v, h => by
    unfold se_args at h
    unfold lv_args
    cases hL : Nat.beq (se_kd ds u) 1 with
    | true =>
      rw [hL, if_pos rfl] at h
      rw [se_cat2 he hr.1 hL, if_pos rfl]
      match i, h with
      | 0, h => simp at h; subst h; exact ⟨w, mm_lget_cons_eq, hr.1⟩
      | 1, h => simp at h
      | i + 2, h =>
        simp at h
        obtain ⟨x, g1, g2⟩ := se_args_gl he hr.2 (k + 2) i v h
        exact ⟨x, by rw [mm_lget_cons_ne (by omega), ← g1]; congr 1; omega, g2⟩
    | false =>
      rw [hL, if_neg (by simp)] at h
      rw [se_catne he hr.1 hL, if_neg (by decide)]
      match i, h with
      | 0, h => simp at h; subst h; exact ⟨w, mm_lget_cons_eq, hr.1⟩
      | i + 1, h =>
        simp at h
        obtain ⟨x, g1, g2⟩ := se_args_gl he hr.2 (k + 1) i v h
        exact ⟨x, by rw [mm_lget_cons_ne (by omega), ← g1]; congr 1; omega, g2⟩
  | [], _ :: _, h, _, _, _, _ => h.elim
  | _ :: _, [], h, _, _, _, _ => h.elim
theorem se_pad_ok {n : Nat} {vs : List se_V} {As : List Value} (he : se_env ty ρ ds) (h : sx_r2 (se_sv ρ) vs As) (hn : (se_args ds vs).length ≤ n) : (se_pad n (se_args ds vs)).length = n ∧ se_gl ρ (se_pad n (se_args ds vs)) (lv_args 0 As) := by
  refine ⟨by unfold se_pad; simp; omega, fun i v hi => ?_⟩
  unfold se_pad at hi
  by_cases hl : i < (se_args ds vs).length
  · rw [List.getElem?_append_left hl] at hi
    obtain ⟨x, g1, g2⟩ := se_args_gl he h 0 i v hi
    exact ⟨x, by simpa using g1, g2⟩
  · rw [List.getElem?_append_right (by omega)] at hi
    have := List.eq_of_mem_replicate (List.mem_of_getElem? hi)
    cases this
theorem se_nar_ok {ft : FieldType} {lo hi : Int} {n : Int32} (h : se_nar ft lo hi = true) (h1 : lo ≤ n.toInt) (h2 : n.toInt ≤ hi) : narrow ft (.int n) = .int n ∧ fits ft (.int n) = true := by
  unfold se_nar at h
  split at h
  · exact ⟨rfl, rfl⟩
  · rw [Bool.and_eq_true, se_le_iff, se_le_iff] at h
    have : n = 0 ∨ n = 1 := by
      have : n.toInt = 0 ∨ n.toInt = 1 := by omega
      rcases this with q | q
      · exact Or.inl (Int32.toInt_inj.mp (by rw [q]; rfl))
      · exact Or.inr (Int32.toInt_inj.mp (by rw [q]; rfl))
    rcases this with rfl | rfl <;> exact ⟨rfl, rfl⟩
  · rw [Bool.and_eq_true, se_le_iff, se_le_iff] at h
    constructor
    · show Value.int n.toInt8.toInt32 = .int n
      congr 1
      apply Int32.toInt_inj.mp
      rw [Int8.toInt_toInt32, Int32.toInt_toInt8]
      exact Int.bmod_eq_of_le (by omega) (by omega)
    · show (decide (-128 ≤ n) && decide (n ≤ 127)) = true
      rw [Bool.and_eq_true, decide_eq_true_iff, decide_eq_true_iff, Int32.le_iff_toInt_le, Int32.le_iff_toInt_le]
      exact ⟨by show (-128 : Int) ≤ _; omega, by show _ ≤ (127 : Int); omega⟩
  · rw [Bool.and_eq_true, se_le_iff, se_le_iff] at h
    have hn := se_nonneg (x := n) (by omega)
    constructor
    · show Value.int n.toUInt32.toUInt16.toUInt32.toInt32 = .int n
      congr 1
      apply Int32.toInt_inj.mp
      have hb : (n.toUInt32.toUInt16.toUInt32.toInt32).toBitVec.toNat = n.toBitVec.toNat % 65536 := by
        show (n.toUInt32.toUInt16.toUInt32).toNat = _
        rw [UInt16.toNat_toUInt32, UInt32.toNat_toUInt16]
        rfl
      rw [se_toNat hb (by omega)]
      omega
    · show (decide (0 ≤ n) && decide (n ≤ 65535)) = true
      rw [Bool.and_eq_true, decide_eq_true_iff, decide_eq_true_iff, Int32.le_iff_toInt_le, Int32.le_iff_toInt_le]
      exact ⟨by show (0 : Int) ≤ _; omega, by show _ ≤ (65535 : Int); omega⟩
  · cases h
end SEJ
