/-! ===== methods by their values: what a state says of a run ===== -/
section IVG
variable (L : Nat) (xs : Nat → Int32)
def iv_cvs (ρ : List Int) (ms : List iv_M) (v : iv_V) : Value := iv_cv v.1 (iv_e L xs ρ ms v.2)
def iv_okv (ρ : List Int) (ms : List iv_M) (v : iv_V) : Prop := iv_nv v.1 (iv_e L xs ρ ms v.2)
def iv_gl (ρ : List Int) (ms : List iv_M) (lv : List (Option iv_V)) (lc : List (Nat × Value)) : Prop := ∀ (i : Nat) (v : iv_V), lv[i]? = some (some v) → mm_lget lc i = some (iv_cvs L xs ρ ms v) ∧ iv_okv L xs ρ ms v
def iv_gs (ρ : List Int) (ms : List iv_M) (st : List iv_V) (sc : List Value) : Prop := sc = st.map (iv_cvs L xs ρ ms) ∧ ∀ v ∈ st, iv_okv L xs ρ ms v
def iv_fr (ρ : List Int) (ms : List iv_M) (f : iv_F) (pc : Nat) (lc : List (Nat × Value)) (sc : List Value) : Prop := sx_cods[f.1]? = some f.2.1 ∧ (∀ e ∈ f.2.2.1, e ∈ f.2.1) ∧ (∀ e t, f.2.2.1 = e :: t → e.1 = pc) ∧ f.2.2.2.1.length = (sx_fi f.1).2.2.1 ∧ iv_gl L xs ρ ms f.2.2.2.1 lc ∧ iv_gs L xs ρ ms f.2.2.2.2 sc
def iv_gK (ρ : List Int) (ms : List iv_M) : Nat → List iv_F → List mm_Fr → Prop
  | _, [], [] => True
  | y, f :: K, c :: Kc => mm_mths[y]? = some c.2.1 ∧ c.1 = sx_fi f.1 ∧ iv_fr L xs ρ ms f c.2.2.1 c.2.2.2.1 c.2.2.2.2.1 ∧ iv_gK ρ ms f.1 K Kc
  | _, _, _ => False
def iv_last (ms : List iv_M) : iv_M := ms.getLastD (fun _ _ => 0)
def iv_mw (ρ : List Int) (ms : List iv_M) (w : List iv_E) : iv_M := match w with
  | [p, k, v] => iv_upd (iv_last ms) (iv_e L xs ρ ms p) (iv_e L xs ρ ms k) (iv_e L xs ρ ms v)
  | [s, sp, d, dp, n] => iv_cpy (iv_last ms) (iv_e L xs ρ ms s) (iv_e L xs ρ ms sp) (iv_e L xs ρ ms d) (iv_e L xs ρ ms dp) (iv_e L xs ρ ms n)
  | _ => iv_last ms
def iv_ms (ρ : List Int) : List iv_M → List (List iv_E) → List iv_M
  | ms, [] => ms
  | ms, w :: W => iv_ms ρ (ms ++ [iv_mw L xs ρ ms w]) W
def iv_X (ρ : List Int) (ms : List iv_M) (I : List iv_I) (f : iv_F) (K : List iv_F) (pc : Nat) (lc : List (Nat × Value)) (sc : List Value) (Kc : List mm_Fr) : Prop := iv_hI L xs ρ ms I ∧ iv_fr L xs ρ ms f pc lc sc ∧ iv_gK L xs ρ ms f.1 K Kc ∧ K.length ≤ 6 ∧ iv_N (iv_last ms)
section IVH
variable (vz : Value) (Q : mm_S → Prop) (ρ : List Int) (μ : iv_M) (d : Nat)
def iv_GS (S : iv_S) : Prop := ∀ (pc : Nat) (lc : List (Nat × Value)) (sc : List Value) (Kc : List mm_Fr) (cb sb : Nat), iv_X L xs ρ (iv_ms L xs ρ [μ] S.2.1) S.1 S.2.2.1 S.2.2.2 pc lc sc Kc → mm_T 38 (mm_zs vz) Q Kc (d - S.2.2.2.length) (sx_fi S.2.2.1.1) (pc, lc, sc, iv_m L xs (iv_last (iv_ms L xs ρ [μ] S.2.1)), cb, sb)
/-- an end is good -/
def iv_GL (l : iv_L) : Prop := ∀ ms : List iv_M, ms = iv_ms L xs ρ [μ] l.2.1 → iv_hI L xs ρ ms l.1 → match l.2.2.1 with
  | 0 => False
  | 1 => ∀ (lc : List (Nat × Value)) (sc : List Value) (cb sb : Nat), iv_gl L xs ρ ms l.2.2.2.2.2.1 lc → iv_gs L xs ρ ms l.2.2.2.2.2.2 sc → iv_N (iv_last ms) → mm_T 38 (mm_zs vz) Q [] d (sx_fi l.2.2.2.1) (l.2.2.2.2.1, lc, sc, iv_m L xs (iv_last ms), cb, sb)
  | _ => ∀ (τ : mm_S) (t : mm_Mt), mm_mths[l.2.2.2.1]? = some t → mm_ret t τ = some ((l.2.2.2.2.2.2.head?).map (iv_cvs L xs ρ ms)) → τ.2.2.2.1 = iv_m L xs (iv_last ms) → iv_N (iv_last ms) → (∀ v ∈ l.2.2.2.2.2.2, iv_okv L xs ρ ms v) → Q τ
def iv_GX (x : iv_S ⊕ iv_L) : Prop := match x with
  | .inl S => iv_GS L xs vz Q ρ μ d S
  | .inr l => iv_GL L xs vz Q ρ μ d l
end IVH
end IVG
section IVK
variable {L : Nat} {xs : Nat → Int32} {vz : Value} {Q : mm_S → Prop} {ρ : List Int} {μ : iv_M} {d : Nat} {ms : List iv_M} {I : List iv_I} {W : List (List iv_E)} {y : Nat} {full tl : List sx_I} {lv : List (Option iv_V)} {st : List iv_V} {K : List iv_F} {pc : Nat} {lc : List (Nat × Value)} {sc : List Value} {Kc : List mm_Fr} {cb sb : Nat} {l : List (iv_S ⊕ iv_L)}
def iv_B (L : Nat) (xs : Nat → Int32) (ρ : List Int) (μ : iv_M) (ms : List iv_M) (W : List (List iv_E)) (y : Nat) (full tl : List sx_I) (lv : List (Option iv_V)) (K : List iv_F) (lc : List (Nat × Value)) (Kc : List mm_Fr) : Prop := ms = iv_ms L xs ρ [μ] W ∧ sx_cods[y]? = some full ∧ (∀ e ∈ tl, e ∈ full) ∧ lv.length = (sx_fi y).2.2.1 ∧ iv_gl L xs ρ ms lv lc ∧ iv_gK L xs ρ ms y K Kc ∧ K.length ≤ 6 ∧ iv_N (iv_last ms)
theorem iv_go_ok (h : iv_go I W y full tl lv st K pc = some l) (hG : ∀ x ∈ l, iv_GX L xs vz Q ρ μ d x) (B : iv_B L xs ρ μ ms W y full tl lv K lc Kc) (hI : iv_hI L xs ρ ms I) (hs : iv_gs L xs ρ ms st sc) : mm_T 38 (mm_zs vz) Q Kc (d - K.length) (sx_fi y) (pc, lc, sc, iv_m L xs (iv_last ms), cb, sb) := by
  obtain ⟨rfl, hfull, htl, hlen, hgl, hK, hKl, hN⟩ := B
  unfold iv_go at h
  rw [sx_nK_eq] at h
  obtain ⟨cs, h1, h2, h3⟩ := sx_nx_inv h htl
  cases h1
  exact hG _ List.mem_cons_self pc lc sc Kc cb sb ⟨hI, ⟨hfull, h2, h3, hlen, hgl, hs⟩, hK, hKl, hN⟩
theorem iv_gs_cons {v : iv_V} (h : iv_gs L xs ρ ms (v :: st) sc) : ∃ sc', sc = iv_cvs L xs ρ ms v :: sc' ∧ iv_okv L xs ρ ms v ∧ iv_gs L xs ρ ms st sc' := ⟨_, h.1, h.2 v List.mem_cons_self, rfl, fun w hw => h.2 w (List.mem_cons_of_mem _ hw)⟩
theorem iv_gs_push {v : iv_V} {x : Value} (h : iv_gs L xs ρ ms st sc) (hx : iv_cvs L xs ρ ms v = x) (hv : iv_okv L xs ρ ms v) : iv_gs L xs ρ ms (v :: st) (x :: sc) := by
  refine ⟨by rw [h.1, List.map_cons, hx], fun w hw => ?_⟩
  rcases List.mem_cons.mp hw with rfl | hw
  · exact hv
  · exact h.2 w hw
theorem iv_gs_nil (h : iv_gs L xs ρ ms [] sc) : sc = [] := h.1
theorem iv_pst {zs : List mm_Zt} {ins : Instr} {len : Nat} {mem : List mm_C} {f : mm_F} (h : mm_pure (sx_fi y).2.2.1 ins len pc lc sc = some f) : mm_stp (sx_fi y).1 (sx_fi y).2.2.1 38 (sx_fi y).2.2.2 zs ins len (pc, lc, sc, mem, cb, sb) = some (f.1, f.2.1, f.2.2, mem, cb, sb) := by
  unfold mm_stp
  dsimp only
  rw [h]
theorem iv_mst {zs : List mm_Zt} {ins : Instr} {len : Nat} {mem : List mm_C} {σ : mm_S} (h0 : mm_pure (sx_fi y).2.2.1 ins len pc lc sc = none) (h : mm_mem (sx_fi y).1 38 (sx_fi y).2.2.2 zs ins len (pc, lc, sc, mem, cb, sb) = some σ) : mm_stp (sx_fi y).1 (sx_fi y).2.2.1 38 (sx_fi y).2.2.2 zs ins len (pc, lc, sc, mem, cb, sb) = some σ := by
  unfold mm_stp
  dsimp only
  rw [h0]
  exact h
/-- a pure step, then on -/
theorem iv_pgo {ins : Instr} {len n : Nat} {sc' : List Value} {st' : List iv_V} (hd : decode (sx_fi y).2.1 pc = .ok (ins, len)) (hr : mm_isR ins = false) (hp : mm_pure (sx_fi y).2.2.1 ins len pc lc sc = some (n, lc, sc')) (h : iv_go I W y full tl lv st' K n = some l) (hG : ∀ x ∈ l, iv_GX L xs vz Q ρ μ d x) (B : iv_B L xs ρ μ ms W y full tl lv K lc Kc) (hI : iv_hI L xs ρ ms I) (hs : iv_gs L xs ρ ms st' sc') : mm_T 38 (mm_zs vz) Q Kc (d - K.length) (sx_fi y) (pc, lc, sc, iv_m L xs (iv_last ms), cb, sb) :=
  mm_T_step hd hr (iv_pst hp) (iv_go_ok h hG B hI hs)
theorem iv_ld_ok {w i : Nat} {v : iv_V} (h : iv_ld w lv i = some v) (hgl : iv_gl L xs ρ ms lv lc) : mm_lget lc i = some (iv_cvs L xs ρ ms v) ∧ iv_okv L xs ρ ms v ∧ iv_kok w v.1 = true := by
  unfold iv_ld at h
  split at h
  · next u e =>
    split at h
    · next e2 => cases h; exact ⟨(hgl i _ e).1, (hgl i _ e).2, e2⟩
    · cases h
  · cases h
theorem iv_ol1_ok {ins : Instr} {i n w k nL : Nat} {x : Int} (h : iv_ol1 ins = some (i, n, w)) (hg : mm_lget lc i = some (iv_cv k x)) (hk : iv_kok w k = true) : mm_pure nL ins n pc lc sc = some (pc + n, lc, iv_cv k x :: sc) ∧ mm_isR ins = false := by
  have k0 : w = 0 → ∃ z, iv_cv k x = .int z := fun e => by
    subst e
    match k, hk with
    | 0, _ => exact ⟨_, rfl⟩
  have k1 : w = 1 → ∃ z, iv_cv k x = .long z := fun e => by
    subst e
    match k, hk with
    | 1, _ => exact ⟨_, rfl⟩
  have k2 : w = 2 → ∃ z, iv_cv k x = .ref z := fun e => by
    subst e
    match k, hk with
    | k + 2, _ => exact ⟨_, rfl⟩
  unfold iv_ol1 at h
  split at h <;> cases h
  · obtain ⟨z, hz⟩ := k0 rfl
    rw [hz] at hg ⊢
    exact ⟨by simp only [mm_pure]; unfold mm_ldi; rw [hg]; rfl, rfl⟩
  · obtain ⟨z, hz⟩ := k0 rfl
    rw [hz] at hg ⊢
    exact ⟨by simp only [mm_pure]; unfold mm_ldi; rw [hg]; rfl, rfl⟩
  · obtain ⟨z, hz⟩ := k1 rfl
    rw [hz] at hg ⊢
    exact ⟨by simp only [mm_pure]; unfold mm_ldl; rw [hg]; rfl, rfl⟩
  · obtain ⟨z, hz⟩ := k1 rfl
    rw [hz] at hg ⊢
    exact ⟨by simp only [mm_pure]; unfold mm_ldl; rw [hg]; rfl, rfl⟩
  · obtain ⟨z, hz⟩ := k2 rfl
    rw [hz] at hg ⊢
    exact ⟨by simp only [mm_pure]; unfold mm_lda; rw [hg]; rfl, rfl⟩
  · obtain ⟨z, hz⟩ := k2 rfl
    rw [hz] at hg ⊢
    exact ⟨by simp only [mm_pure]; unfold mm_lda; rw [hg]; rfl, rfl⟩
theorem iv_os1_ok {ins : Instr} {i n w k nL : Nat} {x : Int} {r : List Value} (h : iv_os1 ins = some (i, n, w)) (hk : iv_kok w k = true) (hi : i < nL) (hi2 : w = 1 → i + 1 < nL) : mm_pure nL ins n pc lc (iv_cv k x :: r) = some (pc + n, if w = 1 then mm_l2 lc i (iv_cv k x) else mm_l1 lc i (iv_cv k x), r) ∧ mm_isR ins = false := by
  have k0 : w = 0 → ∃ z, iv_cv k x = .int z := fun e => by
    subst e
    match k, hk with
    | 0, _ => exact ⟨_, rfl⟩
  have k1 : w = 1 → ∃ z, iv_cv k x = .long z := fun e => by
    subst e
    match k, hk with
    | 1, _ => exact ⟨_, rfl⟩
  have k2 : w = 2 → ∃ z, iv_cv k x = .ref z := fun e => by
    subst e
    match k, hk with
    | k + 2, _ => exact ⟨_, rfl⟩
  unfold iv_os1 at h
  split at h <;> cases h
  · obtain ⟨z, hz⟩ := k0 rfl
    rw [hz]
    exact ⟨by simp only [mm_pure]; unfold mm_sti; dsimp only; rw [if_pos ⟨rfl, hi⟩]; rfl, rfl⟩
  · obtain ⟨z, hz⟩ := k0 rfl
    rw [hz]
    exact ⟨by simp only [mm_pure]; unfold mm_sti; dsimp only; rw [if_pos ⟨rfl, hi⟩]; rfl, rfl⟩
  · obtain ⟨z, hz⟩ := k1 rfl
    rw [hz]
    exact ⟨by simp only [mm_pure]; unfold mm_stl; dsimp only; rw [if_pos ⟨rfl, hi2 rfl⟩]; rfl, rfl⟩
  · obtain ⟨z, hz⟩ := k1 rfl
    rw [hz]
    exact ⟨by simp only [mm_pure]; unfold mm_stl; dsimp only; rw [if_pos ⟨rfl, hi2 rfl⟩]; rfl, rfl⟩
  · obtain ⟨z, hz⟩ := k2 rfl
    rw [hz]
    exact ⟨by simp only [mm_pure]; unfold mm_sta; dsimp only; rw [if_pos ⟨rfl, hi⟩]; rfl, rfl⟩
  · obtain ⟨z, hz⟩ := k2 rfl
    rw [hz]
    exact ⟨by simp only [mm_pure]; unfold mm_sta; dsimp only; rw [if_pos ⟨rfl, hi⟩]; rfl, rfl⟩
/-- what a store of a local leaves -/
theorem iv_cv_cat {k : Nat} {x : Int} : (iv_cv k x).category = if k = 1 then 2 else 1 := by
  match k with
  | 0 => rfl
  | 1 => rfl
  | k + 2 => rw [if_neg (by omega)]; rfl
theorem iv_lK_ok {β : Type} {i : Nat} {v : iv_V} {k : List (Option iv_V) → Option β} {r : β} (h : iv_l1K lv i v k = some r) (hgl : iv_gl L xs ρ ms lv lc) : ∃ lv1, k (lv1.set i (some v)) = some r ∧ lv1.length = lv.length ∧ iv_gl L xs ρ ms lv1 lc ∧ ∀ j u, j + 1 = i → lv1[j]? = some (some u) → u.1 ≠ 1 := by
  unfold iv_l1K at h
  split at h
  · rw [sx_setK_eq] at h
    exact ⟨lv, h, rfl, hgl, fun j u e => by omega⟩
  · next i =>
    split at h
    · next u e1 =>
      split at h
      · next e2 =>
        rw [sx_setK_eq, sx_setK_eq] at h
        refine ⟨lv.set i none, h, by simp, fun j u' hj => ?_, fun j u' e hj => ?_⟩
        · by_cases e : i = j
          · subst e
            rw [List.getElem?_set] at hj
            simp only [if_true] at hj
            split at hj <;> cases hj
          · rw [List.getElem?_set_ne e] at hj
            exact hgl j u' hj
        · have : i = j := by omega
          subst this
          rw [List.getElem?_set] at hj
          simp only [if_true] at hj
          split at hj <;> cases hj
      · next e2 =>
        rw [sx_setK_eq] at h
        refine ⟨lv, h, rfl, hgl, fun j u' e hj => ?_⟩
        have : i = j := by omega
        subst this
        rw [e1] at hj
        cases hj
        exact fun q => e2 (by rw [q]; rfl)
    · next e1 =>
      rw [sx_setK_eq] at h
      refine ⟨lv, h, rfl, hgl, fun j u' e hj => ?_⟩
      have : i = j := by omega
      subst this
      exact absurd hj (fun q => e1 _ q)
theorem iv_l1_key {lv1 : List (Option iv_V)} {i : Nat} {v : iv_V} (h1 : iv_gl L xs ρ ms lv1 lc) (h2 : ∀ j u, j + 1 = i → lv1[j]? = some (some u) → u.1 ≠ 1) (hv : iv_okv L xs ρ ms v) : iv_gl L xs ρ ms (lv1.set i (some v)) (mm_l1 lc i (iv_cvs L xs ρ ms v)) := by
  intro j u hj
  by_cases e : i = j
  · subst e
    rw [List.getElem?_set] at hj
    simp only [if_true] at hj
    split at hj
    · cases hj; exact ⟨mm_lget_l1s, hv⟩
    · cases hj
  · rw [List.getElem?_set_ne e] at hj
    obtain ⟨g1, g2⟩ := h1 j u hj
    refine ⟨mm_lget_l1 g1 (fun q => e q.symm) (fun q => ?_), g2⟩
    have := h2 j u q.1 hj
    have q2 := q.2
    unfold iv_cvs at q2
    rw [iv_cv_cat, if_neg this] at q2
    cases q2
theorem iv_l2_key {lv1 : List (Option iv_V)} {i : Nat} {v : iv_V} (h1 : iv_gl L xs ρ ms lv1 lc) (h2 : ∀ j u, j + 1 = i → lv1[j]? = some (some u) → u.1 ≠ 1) (hv : iv_okv L xs ρ ms v) : iv_gl L xs ρ ms ((lv1.set i (some v)).set (i + 1) none) (mm_l2 lc i (iv_cvs L xs ρ ms v)) := by
  intro j u hj
  by_cases e1 : i + 1 = j
  · subst e1
    rw [List.getElem?_set] at hj
    simp only [if_true] at hj
    split at hj <;> cases hj
  · rw [List.getElem?_set_ne e1] at hj
    by_cases e : i = j
    · subst e
      rw [List.getElem?_set] at hj
      simp only [if_true] at hj
      split at hj
      · cases hj; exact ⟨mm_lget_l2s, hv⟩
      · cases hj
    · rw [List.getElem?_set_ne e] at hj
      obtain ⟨g1, g2⟩ := h1 j u hj
      refine ⟨mm_lget_l2 g1 (fun q => e q.symm) (fun q => e1 q.symm) (fun q => ?_), g2⟩
      have := h2 j u q.1 hj
      have q2 := q.2
      unfold iv_cvs at q2
      rw [iv_cv_cat, if_neg this] at q2
      cases q2
end IVK
