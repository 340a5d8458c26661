/-! ===== runs from cut to cut: what a state says of a run ===== -/
def se_sv (ρ : List Value) (v : se_V) (x : Value) : Prop := se_v ρ v = some x
def se_gl (ρ : List Value) (lv : List (Option se_V)) (lc : List (Nat × Value)) : Prop := ∀ (i : Nat) (v : se_V), lv[i]? = some (some v) → ∃ x, mm_lget lc i = some x ∧ se_v ρ v = some x
def se_fr (ρ : List Value) (f : se_F) (pc : Nat) (lc : List (Nat × Value)) (sc : List Value) : Prop := sx_cods[f.1]? = some f.2.1 ∧ (∀ e ∈ f.2.2.1, e ∈ f.2.1) ∧ (∀ e t, f.2.2.1 = e :: t → e.1 = pc) ∧ f.2.2.2.1.length = (sx_fi f.1).2.2.1 ∧ se_gl ρ f.2.2.2.1 lc ∧ sx_r2 (se_sv ρ) f.2.2.2.2 sc
def se_gK (ρ : List Value) : Nat → List se_F → List mm_Fr → Prop
  | _, [], [] => True
  | y, f :: K, c :: Kc => mm_mths[y]? = some c.2.1 ∧ c.1 = sx_fi f.1 ∧ se_fr ρ f c.2.2.1 c.2.2.2.1 c.2.2.2.2.1 ∧ se_gK ρ f.1 K Kc
  | _, _, _ => False
def se_mf (ρ : List Value) (M : se_M) (mem : List mm_C) : Prop := ∀ e ∈ M, ∃ (q : Nat) (j : Int32) (x : Value), se_v ρ e.1 = some (.ref q) ∧ se_v ρ e.2.1 = some (.int j) ∧ 0 ≤ j.toInt ∧ se_v ρ e.2.2 = some x ∧ se_get mem q j.toInt.toNat = some x
def se_ap (ρ : List Value) : se_M → List mm_C → List mm_C → Prop
  | [], m0, m => m = m0
  | e :: t, m0, m => ∃ (m1 : List mm_C) (q : Nat) (j : Int32) (x : Value), se_ap ρ t m0 m1 ∧ se_v ρ e.1 = some (.ref q) ∧ se_v ρ e.2.1 = some (.int j) ∧ 0 ≤ j.toInt ∧ se_v ρ e.2.2 = some x ∧ m = se_set m1 q j.toInt.toNat x
/-- nothing but some slots of some types is changed -/
def se_fq (ty : Nat → Option Nat) (W : se_W) (m0 m : List mm_C) : Prop := (∀ p : Nat, ty p = none → m[p]? = m0[p]?) ∧ ∀ (p t i : Nat), ty p = some t → (∀ u ∈ W, u.1 = t → i < u.2.1 ∨ u.2.2 ≤ i) → se_get m p i = se_get m0 p i
section SEF
variable (ty : Nat → Option Nat) (tt : Nat → se_Ty) (W : se_W) (J : List mm_C → Prop) (m0 : List mm_C)
/-- what no step on values changes -/
def se_X (ρ : List Value) (y : Nat) (M : se_M) (K : List se_F) (Kc : List mm_Fr) (P : se_P) (L : Option se_M) (mc : List mm_C) : Prop := se_mf ρ M mc ∧ se_gK ρ y K Kc ∧ K.length ≤ 12 ∧ se_pf ρ P ∧ (∀ l, L = some l → se_ap ρ l m0 mc) ∧ se_tm ty tt mc ∧ J mc ∧ se_fq ty W m0 mc
def se_Good (kx : Nat) (zs : List mm_Zt) (Q : mm_S → Prop) (ρ0 : List Value) (d : Nat) (S : se_S) : Prop := ∀ ρ : List Value, ρ0 <+: ρ → ∀ (pc : Nat) (lc : List (Nat × Value)) (sc : List Value) (mc : List mm_C) (Kc : List mm_Fr) (cb sb : Nat), se_env ty ρ S.1 → se_fr ρ S.2.2.1 pc lc sc → se_X ty tt W J m0 ρ S.2.2.1.1 S.2.1 S.2.2.2.1 Kc S.2.2.2.2.1 S.2.2.2.2.2 mc → mm_T kx zs Q Kc (d - S.2.2.2.1.length) (sx_fi S.2.2.1.1) (pc, lc, sc, mc, cb, sb)
end SEF
theorem se_sv_app {ρ : List Value} (δ : List Value) : ∀ {st : List se_V} {sc : List Value}, sx_r2 (se_sv ρ) st sc → sx_r2 (se_sv (ρ ++ δ)) st sc
  | [], [], _ => trivial
  | _ :: _, _ :: _, h => ⟨se_v_app h.1 δ, se_sv_app δ h.2⟩
  | [], _ :: _, h => h.elim
  | _ :: _, [], h => h.elim
theorem se_gl_app {ρ : List Value} {lv : List (Option se_V)} {lc : List (Nat × Value)} (h : se_gl ρ lv lc) (δ : List Value) : se_gl (ρ ++ δ) lv lc := fun i v e => by
  obtain ⟨x, h1, h2⟩ := h i v e
  exact ⟨x, h1, se_v_app h2 δ⟩
theorem se_fr_app {ρ : List Value} {f : se_F} {pc : Nat} {lc : List (Nat × Value)} {sc : List Value} (h : se_fr ρ f pc lc sc) (δ : List Value) : se_fr (ρ ++ δ) f pc lc sc := ⟨h.1, h.2.1, h.2.2.1, h.2.2.2.1, se_gl_app h.2.2.2.2.1 δ, se_sv_app δ h.2.2.2.2.2⟩
theorem se_gK_app {ρ : List Value} (δ : List Value) : ∀ {y : Nat} {K : List se_F} {Kc : List mm_Fr}, se_gK ρ y K Kc → se_gK (ρ ++ δ) y K Kc
  | _, [], [], _ => trivial
  | _, _ :: _, _ :: _, h => ⟨h.1, h.2.1, se_fr_app h.2.2.1 δ, se_gK_app δ h.2.2.2⟩
  | _, [], _ :: _, h => h.elim
  | _, _ :: _, [], h => h.elim
theorem se_mf_app {ρ : List Value} {M : se_M} {mem : List mm_C} (h : se_mf ρ M mem) (δ : List Value) : se_mf (ρ ++ δ) M mem := fun e he => by
  obtain ⟨q, j, x, h1, h2, h3, h4, h5⟩ := h e he
  exact ⟨q, j, x, se_v_app h1 δ, se_v_app h2 δ, h3, se_v_app h4 δ, h5⟩
theorem se_pf_app {ρ : List Value} {P : se_P} (h : se_pf ρ P) (δ : List Value) : se_pf (ρ ++ δ) P := fun e he => by
  obtain ⟨a, b, h1, h2, h3⟩ := h e he
  exact ⟨a, b, se_v_app h1 δ, se_v_app h2 δ, h3⟩
theorem se_ap_app {ρ : List Value} (δ : List Value) : ∀ {l : se_M} {m0 m : List mm_C}, se_ap ρ l m0 m → se_ap (ρ ++ δ) l m0 m
  | [], _, _, h => h
  | _ :: _, _, _, h => by
    obtain ⟨m1, q, j, x, h1, h2, h3, h4, h5, h6⟩ := h
    exact ⟨m1, q, j, x, se_ap_app δ h1, se_v_app h2 δ, se_v_app h3 δ, h4, se_v_app h5 δ, h6⟩
section SEG
variable {ty : Nat → Option Nat} {tt : Nat → se_Ty} {W : se_W} {J : List mm_C → Prop} {m0 : List mm_C} {ρ : List Value} {ds : List se_D} {y : Nat} {M : se_M} {K : List se_F} {Kc : List mm_Fr} {P : se_P} {L : Option se_M} {mc : List mm_C} {l : List se_S}
theorem se_X_app (h : se_X ty tt W J m0 ρ y M K Kc P L mc) (δ : List Value) : se_X ty tt W J m0 (ρ ++ δ) y M K Kc P L mc := ⟨se_mf_app h.1 δ, se_gK_app δ h.2.1, h.2.2.1, se_pf_app h.2.2.2.1 δ, fun l hl => se_ap_app δ (h.2.2.2.2.1 l hl), h.2.2.2.2.2⟩
theorem se_dok_app {d : se_D} {w : Value} (h : se_dok ty ρ d w) (δ : List Value) : se_dok ty (ρ ++ δ) d w := ⟨h.1, fun e => by
  obtain ⟨a, b, h1, h2, h3⟩ := h.2 e
  exact ⟨a, b, se_v_app h1 δ, se_v_app h2 δ, h3⟩⟩
theorem se_env_new {d : se_D} {w : Value} (h : se_env ty ρ ds) (hw : se_dok ty ρ d w) : se_env ty (ρ ++ [w]) (ds ++ [d]) := by
  refine ⟨by simp [h.1], fun k e he => ?_⟩
  by_cases hk : k < ds.length
  · rw [List.getElem?_append_left hk] at he
    obtain ⟨x, h1, h2⟩ := h.2 k e he
    exact ⟨x, by rw [List.getElem?_append_left (by rw [h.1]; exact hk)]; exact h1, se_dok_app h2 _⟩
  · have hk2 : k = ds.length := by
      have := (List.getElem?_eq_some_iff.mp he).1
      simp at this
      omega
    subst hk2
    simp at he
    subst he
    exact ⟨w, by rw [← h.1]; simp, se_dok_app hw _⟩
theorem se_dok0 {d : se_K} {w : Value} {x z : se_V} (h : se_k ty d w) : se_dok ty ρ (d, 0, x, z) w := ⟨h, fun e => absurd rfl e⟩
theorem se_cat_ok (h : se_env ty ρ ds) {v : se_V} {x : Value} (hx : se_v ρ v = some x) : x.category = se_cat ds v := by
  unfold se_cat
  match hk : se_kd ds v with
  | 0 => obtain ⟨m, rfl, _⟩ := se_int h hx hk; rfl
  | 1 => obtain ⟨m, rfl⟩ := se_long h hx hk; rfl
  | t + 2 => obtain ⟨m, rfl, h2⟩ := se_ref h hx hk; rfl
theorem se_rg_hi (ds : List se_D) (v : se_V) : se_lo ≤ (se_rg ds v).1 ∧ (se_rg ds v).2 ≤ se_hi := by
  have key : ∀ l h, se_lo ≤ (se_fit l h).1 ∧ (se_fit l h).2 ≤ se_hi := by
    intro l h
    unfold se_fit
    split
    · next e => exact se_in_iff e
    · exact ⟨Int.le_refl _, Int.le_refl _⟩
  unfold se_rg
  split
  · exact key _ _
  · split
    · split <;> exact key _ _
    · exact ⟨Int.le_refl _, Int.le_refl _⟩
end SEG
