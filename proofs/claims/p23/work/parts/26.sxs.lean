/-! ===== symbolic runs: states that are good ===== -/
def sx_fr (env : Nat → Int32) (f : sx_F) (pc : Nat) (lc : List (Nat × Value)) (sc : List Value) : Prop := sx_cods[f.1]? = some f.2.1 ∧ (∀ e ∈ f.2.2.1, e ∈ f.2.1) ∧ (∀ e t, f.2.2.1 = e :: t → e.1 = pc) ∧ f.2.2.2.1.length = (sx_fi f.1).2.2.1 ∧ sx_gl env f.2.2.2.1 lc ∧ sx_r2 (sx_g env) f.2.2.2.2.1 sc
def sx_gK (env : Nat → Int32) : Nat → List sx_F → List mm_Fr → Prop
  | _, [], [] => True
  | y, f :: K, c :: Kc => mm_mths[y]? = some c.2.1 ∧ c.1 = sx_fi f.1 ∧ sx_fr env f c.2.2.1 c.2.2.2.1 c.2.2.2.2.1 ∧ c.2.2.2.2.2 = f.2.2.2.2.2 ∧ sx_gK env f.1 K Kc
  | _, _, _ => False
def sx_Good (kx : Nat) (zs : List mm_Zt) (P : mm_S → Prop) (S : sx_S) : Prop := ∀ env : Nat → Int32, sx_iv env S.1 → ∀ (pc : Nat) (lc : List (Nat × Value)) (sc : List Value) (mc : List mm_C) (Kc : List mm_Fr), sx_fr env S.2.2.1 pc lc sc → sx_r2 (sx_gc env) S.2.1 mc → sx_gK env S.2.2.1.1 S.2.2.2 Kc → S.2.2.2.length ≤ 60 → mm_T kx zs P Kc (100 - S.2.2.2.length) (sx_fi S.2.2.1.1) (pc, lc, sc, mc, S.2.2.1.2.2.2.2.2)
theorem sx_nx_inv {β : Type} {tl full : List sx_I} {pc : Nat} {k : List sx_I → Option β} {r : β} (h : sx_nx tl full pc k = some r) (htl : ∀ e ∈ tl, e ∈ full) : ∃ cs, k cs = some r ∧ (∀ e ∈ cs, e ∈ full) ∧ ∀ e t, cs = e :: t → e.1 = pc := by
  have hdw : (∀ e ∈ full.dropWhile (fun e => !(Nat.beq e.1 pc)), e ∈ full) ∧ ∀ e t, full.dropWhile (fun e => !(Nat.beq e.1 pc)) = e :: t → e.1 = pc := by
    refine ⟨fun e he => (List.dropWhile_sublist _).subset he, fun e t he => ?_⟩
    have := List.head?_dropWhile_not (fun e : sx_I => !(Nat.beq e.1 pc)) full
    rw [he] at this
    simp at this
    exact Nat.eq_of_beq_eq_true (by simpa using this)
  unfold sx_nx at h
  split at h
  · next e t =>
    split at h
    · next e1 => exact ⟨_, h, htl, fun e' t' he => by cases he; exact Nat.eq_of_beq_eq_true e1⟩
    · exact ⟨_, h, hdw⟩
  · exact ⟨_, h, hdw⟩
section SXS
variable {kx : Nat} {zs : List mm_Zt} {P : mm_S → Prop} {env : Nat → Int32} {iv : List (Nat × Nat)} {mem : List sx_C} {y : Nat} {full tl : List sx_I} {lv : List (Option sx_V)} {st : List sx_V} {cb sb : Nat} {K : List sx_F} {l : List sx_S} {pc : Nat} {lc : List (Nat × Value)} {sc : List Value} {mc : List mm_C} {Kc : List mm_Fr}
theorem sx_go_ok (h : sx_go iv mem y full tl lv st cb sb K pc = some l) (hG : ∀ S ∈ l, sx_Good kx zs P S) (hiv : sx_iv env iv) (hfull : sx_cods[y]? = some full) (htl : ∀ e ∈ tl, e ∈ full) (hlen : lv.length = (sx_fi y).2.2.1) (hgl : sx_gl env lv lc) (hst : sx_r2 (sx_g env) st sc) (hm : sx_r2 (sx_gc env) mem mc) (hK : sx_gK env y K Kc) (hKl : K.length ≤ 60) : mm_T kx zs P Kc (100 - K.length) (sx_fi y) (pc, lc, sc, mc, cb, sb) := by
  unfold sx_go at h
  rw [sx_nK_eq] at h
  obtain ⟨cs, h1, h2, h3⟩ := sx_nx_inv h htl
  cases h1
  exact hG _ List.mem_cons_self env hiv pc lc sc mc Kc ⟨hfull, h2, h3, hlen, hgl, hst⟩ hm hK hKl
theorem sx_ld_g (hiv : sx_iv env iv) (hgl : sx_gl env lv lc) {i : Nat} {v : sx_V} (h : sx_ld iv lv i = some v) : ∃ x, mm_lget lc i = some x ∧ sx_g env v x := by
  unfold sx_ld at h
  split at h
  · next w e =>
    cases h
    obtain ⟨x, h1, h2⟩ := hgl i w e
    exact ⟨x, h1, sx_cn_g hiv h2⟩
  · cases h
theorem mm_find_and {α : Type} {p q : α → Bool} {a : α} : ∀ {l : List α}, l.find? p = some a → q a = true → (l.filter q).find? p = some a
  | [], h, _ => by simp at h
  | x :: l, h, hq => by
    by_cases hp : p x = true
    · rw [List.find?_cons_of_pos hp] at h
      cases h
      rw [List.filter_cons_of_pos hq, List.find?_cons_of_pos hp]
    · rw [List.find?_cons_of_neg hp] at h
      by_cases hx : q x = true
      · rw [List.filter_cons_of_pos hx, List.find?_cons_of_neg hp]
        exact mm_find_and h hq
      · rw [List.filter_cons_of_neg hx]
        exact mm_find_and h hq
theorem mm_lget_l1 {i j : Nat} {v w : Value} (hw : mm_lget lc j = some w) (hj : j ≠ i) (hc : ¬ (j + 1 = i ∧ w.category = 2)) : mm_lget (mm_l1 lc i v) j = some w := by
  unfold mm_lget at hw ⊢
  obtain ⟨q, h1, rfl⟩ := Option.map_eq_some_iff.mp hw
  have h2 := List.find?_some h1
  simp at h2
  unfold mm_l1
  rw [List.find?_cons_of_neg (by simpa using fun e => hj e.symm), mm_find_and h1]
  · rfl
  · rw [h2]
    simp only [Bool.and_eq_true, Bool.not_eq_true', beq_eq_false_iff_ne, Bool.and_eq_false_imp, beq_iff_eq]
    exact ⟨hj, fun e => by
      have := fun q => hc ⟨e, q⟩
      simpa using this⟩
theorem mm_lget_l1s {i : Nat} {v : Value} : mm_lget (mm_l1 lc i v) i = some v := by
  unfold mm_lget mm_l1
  rw [List.find?_cons_of_pos (by simp)]
  rfl
theorem sx_cat_isL {v : sx_V} {w : Value} (hg : sx_g env v w) (h : sx_is2 v = false) : w.category = 1 := by
  match v, hg, h with
  | .inl u, hg, h =>
    have : w = u := hg
    subst this
    have h : (w.category == 2) = false := h
    rcases lv_cat w with q | q
    · exact q
    · rw [q] at h; cases h
  | .inr (0, k), hg, h => rw [show w = .int (env k) from hg]; rfl
  | .inr (1, k), hg, h => obtain ⟨x, rfl⟩ := hg; rfl
  | .inr (2, k), hg, h => cases h
theorem sx_l1K_ok {α : Type} {i : Nat} {v : sx_V} {w : Value} {k : List (Option sx_V) → Option α} {r : α} (h : sx_l1K lv i v k = some r) (hgl : sx_gl env lv lc) (hg : sx_g env v w) : ∃ lv', k lv' = some r ∧ lv'.length = lv.length ∧ sx_gl env lv' (mm_l1 lc i w) := by
  have key : ∀ lv1 : List (Option sx_V), sx_gl env lv1 lc → (∀ j u, j + 1 = i → lv1[j]? = some (some u) → sx_is2 u = false) → sx_gl env (lv1.set i (some v)) (mm_l1 lc i w) := by
    intro lv1 h1 h2 j u hj
    by_cases e : i = j
    · subst e
      rw [List.getElem?_set] at hj
      simp only [if_true] at hj
      split at hj
      · cases hj; exact ⟨w, mm_lget_l1s, hg⟩
      · cases hj
    · rw [List.getElem?_set_ne e] at hj
      obtain ⟨x, g1, g2⟩ := h1 j u hj
      refine ⟨x, mm_lget_l1 g1 (fun q => e q.symm) (fun q => ?_), g2⟩
      have := sx_cat_isL g2 (h2 j u q.1 hj)
      omega
  unfold sx_l1K at h
  split at h
  · rw [sx_setK_eq] at h
    exact ⟨_, h, by simp, key lv hgl (fun j u e => by omega)⟩
  · next i =>
    split at h
    · next u e1 =>
      split at h
      · next e2 =>
        rw [sx_setK_eq, sx_setK_eq] at h
        refine ⟨_, h, by simp, key _ (fun j u' hj => ?_) (fun j u' e hj => ?_)⟩
        · by_cases e : i = j
          · subst e
            rw [List.getElem?_set] at hj
            simp only [if_true] at hj
            split at hj <;> cases hj
          · rw [List.getElem?_set_ne e] at hj
            exact hgl j u' hj
        · have : i = j := by omega
          subst this
          rw [List.getElem?_set] at hj
          simp only [if_true] at hj
          split at hj <;> cases hj
      · next e2 =>
        rw [sx_setK_eq] at h
        refine ⟨_, h, by simp, key lv hgl (fun j u' e hj => ?_)⟩
        have : i = j := by omega
        subst this
        rw [e1] at hj
        cases hj
        simpa using e2
    · next e1 =>
      rw [sx_setK_eq] at h
      refine ⟨_, h, by simp, key lv hgl (fun j u' e hj => ?_)⟩
      have : i = j := by omega
      subst this
      exact absurd hj (fun q => e1 _ q)
theorem sx_b2_ok {g : Int32 → Int32 → Int32} {k : List sx_V → sx_R} (h : sx_b2 g st k = some l) (hst : sx_r2 (sx_g env) st sc) : ∃ x y rc st', sc = .int y :: .int x :: rc ∧ k st' = some l ∧ sx_r2 (sx_g env) st' (.int (g x y) :: rc) := by
  unfold sx_b2 at h
  split at h
  · next y x r =>
    have hq := sx_r2_cons hst; clear hst; obtain ⟨b1, t1, rfl, g1, hst⟩ := hq
    have hq := sx_r2_cons hst; clear hst; obtain ⟨b2, t2, rfl, g2, hst⟩ := hq
    cases g1; cases g2
    rw [sx_iK_eq] at h
    exact ⟨x, y, t2, _, rfl, h, rfl, hst⟩
  · next a b r _ =>
    have hq := sx_r2_cons hst; clear hst; obtain ⟨b1, t1, rfl, g1, hst⟩ := hq
    have hq := sx_r2_cons hst; clear hst; obtain ⟨b2, t2, rfl, g2, hst⟩ := hq
    split at h
    · next e =>
      rw [Bool.and_eq_true] at e
      obtain ⟨y, rfl⟩ := sx_isI_g e.1 g1
      obtain ⟨x, rfl⟩ := sx_isI_g e.2 g2
      exact ⟨x, y, t2, _, rfl, h, ⟨_, rfl⟩, hst⟩
    · cases h
  · cases h
theorem sx_and_ok {k : List sx_V → sx_R} (hiv : sx_iv env iv) (h : sx_and st k = some l) (hst : sx_r2 (sx_g env) st sc) : ∃ x y rc st', sc = .int y :: .int x :: rc ∧ k st' = some l ∧ sx_r2 (sx_g env) st' (.int (x &&& y) :: rc) := by
  unfold sx_and at h
  split at h
  · next y j r =>
    have hq := sx_r2_cons hst; clear hst; obtain ⟨b1, t1, rfl, g1, hst⟩ := hq
    have hq := sx_r2_cons hst; clear hst; obtain ⟨b2, t2, rfl, g2, hst⟩ := hq
    cases g1; cases g2
    split at h
    · next e =>
      subst e
      refine ⟨env j, -1, t2, _, rfl, h, ?_, hst⟩
      show Value.int (env j &&& -1) = .int (env j)
      congr 1
      simp
    · split at h
      · next e =>
        obtain ⟨rfl, e2⟩ := e
        have e3 : j = 0 := Nat.eq_of_beq_eq_true e2
        subst e3
        refine ⟨env 0, 63, t2, _, rfl, h, ?_, hst⟩
        show Value.int (env 0 &&& 63) = .int (env 6)
        rw [hiv.2]
      · exact ⟨env j, y, t2, _, rfl, h, ⟨_, rfl⟩, hst⟩
  · exact sx_b2_ok h hst
theorem sx_add_ok {k : List sx_V → sx_R} (h : sx_add st k = some l) (hst : sx_r2 (sx_g env) st sc) : ∃ x y rc st', sc = .int y :: .int x :: rc ∧ k st' = some l ∧ sx_r2 (sx_g env) st' (.int (x + y) :: rc) := by
  unfold sx_add at h
  split at h
  · next y j r =>
    have hq := sx_r2_cons hst; clear hst; obtain ⟨b1, t1, rfl, g1, hst⟩ := hq
    have hq := sx_r2_cons hst; clear hst; obtain ⟨b2, t2, rfl, g2, hst⟩ := hq
    cases g1; cases g2
    split at h
    · next e =>
      subst e
      refine ⟨env j, 0, t2, _, rfl, h, ?_, hst⟩
      show Value.int (env j + 0) = .int (env j)
      simp
    · exact ⟨env j, y, t2, _, rfl, h, ⟨_, rfl⟩, hst⟩
  · next j x r =>
    have hq := sx_r2_cons hst; clear hst; obtain ⟨b1, t1, rfl, g1, hst⟩ := hq
    have hq := sx_r2_cons hst; clear hst; obtain ⟨b2, t2, rfl, g2, hst⟩ := hq
    cases g1; cases g2
    split at h
    · next e =>
      subst e
      refine ⟨0, env j, t2, _, rfl, h, ?_, hst⟩
      show Value.int (0 + env j) = .int (env j)
      simp
    · exact ⟨x, env j, t2, _, rfl, h, ⟨_, rfl⟩, hst⟩
  · exact sx_b2_ok h hst
theorem sx_div_ok {g : Int32 → Int32 → Int32} {k : List sx_V → sx_R} (h : sx_div g st k = some l) (hst : sx_r2 (sx_g env) st sc) : ∃ x y rc st', sc = .int y :: .int x :: rc ∧ ¬ y = 0 ∧ k st' = some l ∧ sx_r2 (sx_g env) st' (.int (g x y) :: rc) := by
  unfold sx_div at h
  split at h
  · next y x r =>
    have hq := sx_r2_cons hst; clear hst; obtain ⟨b1, t1, rfl, g1, hst⟩ := hq
    have hq := sx_r2_cons hst; clear hst; obtain ⟨b2, t2, rfl, g2, hst⟩ := hq
    cases g1; cases g2
    split at h
    · cases h
    · next e => rw [sx_iK_eq] at h; exact ⟨x, y, t2, _, rfl, e, h, rfl, hst⟩
  · next y b r _ =>
    have hq := sx_r2_cons hst; clear hst; obtain ⟨b1, t1, rfl, g1, hst⟩ := hq
    have hq := sx_r2_cons hst; clear hst; obtain ⟨b2, t2, rfl, g2, hst⟩ := hq
    cases g1
    split at h
    · cases h
    · next e =>
      split at h
      · next e2 =>
        obtain ⟨x, rfl⟩ := sx_isI_g e2 g2
        exact ⟨x, y, t2, _, rfl, e, h, ⟨_, rfl⟩, hst⟩
      · cases h
  · cases h
theorem sx_u1_ok {g : Int32 → Int32} {k : List sx_V → sx_R} (h : sx_u1 g st k = some l) (hst : sx_r2 (sx_g env) st sc) : ∃ x rc st', sc = .int x :: rc ∧ k st' = some l ∧ sx_r2 (sx_g env) st' (.int (g x) :: rc) := by
  unfold sx_u1 at h
  split at h
  · next x r =>
    have hq := sx_r2_cons hst; clear hst; obtain ⟨b1, t1, rfl, g1, hst⟩ := hq
    cases g1
    rw [sx_iK_eq] at h
    exact ⟨x, t1, _, rfl, h, rfl, hst⟩
  · next a r _ =>
    have hq := sx_r2_cons hst; clear hst; obtain ⟨b1, t1, rfl, g1, hst⟩ := hq
    split at h
    · next e =>
      obtain ⟨y, rfl⟩ := sx_isI_g e g1
      exact ⟨y, t1, _, rfl, h, ⟨_, rfl⟩, hst⟩
    · cases h
  · cases h
theorem sx_l2_ok {g : Int64 → Int64 → Int64} {k : List sx_V → sx_R} (h : sx_l2 g st k = some l) (hst : sx_r2 (sx_g env) st sc) : ∃ x y rc st', sc = .long y :: .long x :: rc ∧ k st' = some l ∧ sx_r2 (sx_g env) st' (.long (g x y) :: rc) := by
  unfold sx_l2 at h
  split at h
  · next y x r =>
    have hq := sx_r2_cons hst; clear hst; obtain ⟨b1, t1, rfl, g1, hst⟩ := hq
    have hq := sx_r2_cons hst; clear hst; obtain ⟨b2, t2, rfl, g2, hst⟩ := hq
    cases g1; cases g2
    rw [sx_lK_eq] at h
    exact ⟨x, y, t2, _, rfl, h, rfl, hst⟩
  · next a b r _ =>
    have hq := sx_r2_cons hst; clear hst; obtain ⟨b1, t1, rfl, g1, hst⟩ := hq
    have hq := sx_r2_cons hst; clear hst; obtain ⟨b2, t2, rfl, g2, hst⟩ := hq
    split at h
    · next e =>
      rw [Bool.and_eq_true] at e
      obtain ⟨y, rfl⟩ := sx_isL_g e.1 g1
      obtain ⟨x, rfl⟩ := sx_isL_g e.2 g2
      exact ⟨x, y, t2, _, rfl, h, ⟨_, rfl⟩, hst⟩
    · cases h
  · cases h
theorem sx_li_ok {g : Int64 → Int32 → Int64} {k : List sx_V → sx_R} (h : sx_li g st k = some l) (hst : sx_r2 (sx_g env) st sc) : ∃ x y rc st', sc = .int y :: .long x :: rc ∧ k st' = some l ∧ sx_r2 (sx_g env) st' (.long (g x y) :: rc) := by
  unfold sx_li at h
  split at h
  · next y x r =>
    have hq := sx_r2_cons hst; clear hst; obtain ⟨b1, t1, rfl, g1, hst⟩ := hq
    have hq := sx_r2_cons hst; clear hst; obtain ⟨b2, t2, rfl, g2, hst⟩ := hq
    cases g1; cases g2
    rw [sx_lK_eq] at h
    exact ⟨x, y, t2, _, rfl, h, rfl, hst⟩
  · next a b r _ =>
    have hq := sx_r2_cons hst; clear hst; obtain ⟨b1, t1, rfl, g1, hst⟩ := hq
    have hq := sx_r2_cons hst; clear hst; obtain ⟨b2, t2, rfl, g2, hst⟩ := hq
    split at h
    · next e =>
      rw [Bool.and_eq_true] at e
      obtain ⟨y, rfl⟩ := sx_isI_g e.1 g1
      obtain ⟨x, rfl⟩ := sx_isL_g e.2 g2
      exact ⟨x, y, t2, _, rfl, h, ⟨_, rfl⟩, hst⟩
    · cases h
  · cases h
theorem sx_cats_ok : ∀ {st : List sx_V} {sc : List Value}, sx_r2 (sx_g env) st sc → (sc.map fun v => v.category).sum ≤ sx_cats st
  | [], [], _ => Nat.le_refl _
  | v :: st, w :: sc, h => by
    have ih := sx_cats_ok h.2
    unfold sx_cats at ih ⊢
    simp only [List.map_cons, List.sum_cons]
    have : w.category ≤ sx_cat v := by
      unfold sx_cat
      cases hL : sx_is2 v with
      | true => rcases lv_cat w with q | q <;> simp [q]
      | false => rw [sx_cat_isL h.1 hL]; simp
    omega
  | [], _ :: _, h => h.elim
  | _ :: _, [], h => h.elim
end SXS
