/-! ===== less is known of the locals; contracts by types with facts ===== -/
section WK
variable {L : Nat} {xs : Nat → Int32} {vz : Value} {μ : iv_M}
/-- less is known of the locals -/
def iv_lew : List (Option iv_Z) → List (Option iv_Z) → Prop
  | [], [] => True
  | a :: s, b :: t => (a = none ∨ a = b) ∧ iv_lew s t
  | _, _ => False
theorem iv_lew_ok : ∀ {s t : List (Option iv_Z)}, iv_lew s t → ∀ (i : Nat) (v : iv_Z), s[i]? = some (some v) → t[i]? = some (some v)
  | [], [], _, i, v, h => by simp at h
  | a :: s, b :: t, hl, 0, v, h => by
    simp at h
    rcases hl.1 with e | e
    · rw [e] at h; cases h
    · rw [← e, h]; rfl
  | a :: s, b :: t, hl, i + 1, v, h => by
    simp at h ⊢
    exact iv_lew_ok hl.2 i v h
  | [], _ :: _, hl, _, _, _ => hl.elim
  | _ :: _, [], hl, _, _, _ => hl.elim
theorem iv_wk {d y pc : Nat} {ls ls' : List (Option iv_Z)} {st : List iv_Z} {P : iv_P} (h : iv_G L xs vz d y pc ls' st μ P) (hl : iv_lew ls' ls) : iv_G L xs vz d y pc ls st μ P :=
  fun t ht D hD lc cb sb h1 h2 h3 => h t ht D hD lc cb sb (fun i v hi => h1 i v (iv_lew_ok hl i v hi)) h2 h3
theorem br_nil {W : se_W} (hW : W = []) {μ' : iv_M} (hf : ∀ p k, ¬ br_in W p k → μ' p k = μ p k) : μ' = μ := by
  funext p k
  refine hf p k ?_
  rintro ⟨-, -, t, -, u, hu, -⟩
  rw [hW] at hu
  cases hu
theorem iv_wk2 {d y pc : Nat} {ls ls' : List (Option iv_Z)} {st : List iv_Z} {P : iv_P} (h : iv_G L xs vz d y pc ls' st μ P) (hl : ∀ (i : Nat) (v : iv_Z), ls'[i]? = some (some v) → ls[i]? = some (some v)) : iv_G L xs vz d y pc ls st μ P :=
  fun t ht D hD lc cb sb h1 h2 h3 => h t ht D hD lc cb sb (fun i v hi => h1 i v (hl i v hi)) h2 h3
/-- what is not told at the end -/
theorem iv_wkn {d y pc : Nat} {ls : List (Option iv_Z)} {st : List iv_Z} {P : iv_P} (h : iv_G L xs vz d y pc ls st μ P) (e : List (Option iv_Z)) : iv_G L xs vz d y pc (ls ++ e) st μ P := iv_wk2 h (fun i v hi => by
  rw [List.getElem?_append_left (by
    rcases Nat.lt_or_ge i ls.length with q | q
    · exact q
    · rw [List.getElem?_eq_none q] at hi; cases hi)]
  exact hi)
end WK
theorem br_Cf {L : Nat} {xs : Nat → Int32} {vz : Value} {μ : iv_M} {c : se_C} {d : Nat} {As : List iv_Z} (hm : se_Met st_ty se_tt (rw_J st_ty) 38 (mm_zs vz) c) (hW : br_W c.2.2.2 = true) (hc : br_rvc c = true) (hd : 13 * c.1.2 ≤ d) (h1 : iv_ss As → br_fit As (c.2.1.1.map Prod.fst)) (h2 : c.2.1.2.1 = br_lv As 0) (h3 : c.2.1.2.2.1 = []) (h4 : iv_ss As → se_pf (As.map iv_cz) c.2.1.2.2.2) (hJ : br_J L xs μ) : iv_C L xs vz d c.1.1 As μ (br_P L xs c μ) := by
  intro t ht D hD hA hN
  obtain ⟨f1, f2⟩ := br_fit_ok (h1 hA) hA
  have hρ : se_env st_ty (As.map iv_cz) (c.2.1.1.map Prod.fst) := ⟨by rw [List.length_map, f1], fun k e hk => by
    obtain ⟨w, g1, g2, g3⟩ := f2 k e hk
    exact ⟨w, g1, g2, fun q => absurd g3 q⟩⟩
  have hg : se_gl (As.map iv_cz) c.2.1.2.1 (lv_args 0 (As.map iv_cz)) := fun i v hv => by
    rw [h2] at hv
    obtain ⟨j, x, g1, g2, g3⟩ := br_lv_ok 0 0 i v hv
    rw [Nat.zero_add] at g1 g3
    exact ⟨x, g3, by rw [g1]; exact br_sv g2⟩
  obtain ⟨n, τ, v, r1, r2, e, he, δ, q1, q2, q3, q4, q5, q6, q7, q8⟩ := hm D t (As.map iv_cz) (As.map iv_cz) (iv_m L xs μ) (by omega) ht hρ hg (by rw [h3]; intro e he; cases he) (h4 hA) hJ.1 hJ.2
  have em := br_eq hW hJ.1 q6 q8
  have hl : τ.2.2.2.1.length = 213 := by rw [em, iv_m_len]
  have key : ∃ r : Option iv_Z, v = r.map iv_cz ∧ br_rv c r ∧ ∀ u, r = some u → iv_nv u.1 u.2 := by
    unfold br_rvc at hc
    unfold br_rv
    split at hc
    · next e' ee =>
      rw [ee] at he
      cases List.mem_singleton.mp he
      split at hc
      · next er =>
        try rw [er]
        exact ⟨none, q4 er, rfl, fun u hu => by cases hu⟩
      · next rv er =>
        try rw [er]
        try dsimp only
        split at hc
        · next d' s' ed =>
          try rw [ed]
          try dsimp only
          rw [Bool.and_eq_true, Bool.and_eq_true, Bool.and_eq_true, decide_eq_true_eq, decide_eq_true_eq] at hc
          obtain ⟨c1, c2, c3, c4⟩ := hc
          have c1 := Nat.eq_of_beq_eq_true c1
          have c3 := Nat.eq_of_beq_eq_true c3
          obtain ⟨x, rfl, q9⟩ := q5 rv er
          obtain ⟨w, g1, g2, -⟩ := q1.2 c.2.1.1.length d' (by rw [ed, List.getElem?_append_right (by rw [List.length_map]; exact Nat.le_refl _), List.length_map, Nat.sub_self]; rfl)
          have : rv = (1, c.2.1.1.length, 0) := by
            obtain ⟨a, b, cc⟩ := rv
            dsimp only at c2 c3 c4
            rw [c2, c3, c4]
          rw [this, br_sv g1] at q9
          cases q9
          unfold se_k at g2
          rw [c1] at g2
          obtain ⟨n, rfl, g3, g4⟩ := g2
          refine ⟨some (0, n.toInt), ?_, ⟨n.toInt, rfl, iv_t32 n, g3, g4⟩, fun u hu => by cases hu; exact iv_t32 n⟩
          show some (Value.int n) = some (Value.int (Int32.ofInt n.toInt))
          rw [Int32.ofInt_toInt]
        · cases hc
    · cases hc
  obtain ⟨r, rfl, k2, k3⟩ := key
  exact ⟨n, τ, r1, r, br_m μ τ.2.2.2.1, r2, em, br_N q6 hl hN, k3, ⟨by rw [← em]; exact q6, by rw [← em]; exact q7⟩, fun p k h => br_fr hJ.1 q8 hN h, k2⟩
