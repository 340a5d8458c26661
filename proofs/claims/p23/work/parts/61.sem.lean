/-! ===== runs from cut to cut: reads, writes, returns as steps ===== -/
section SEO
variable {kx : Nat} {zs : List mm_Zt} {Q : mm_S → Prop} {ρ0 : List Value} {d : Nat}
variable {ty : Nat → Option Nat} {tt : Nat → se_Ty} {W Z : se_W} {tw : Nat} {J : List mm_C → Prop} {m0 : List mm_C} {ρ : List Value} {ds : List se_D} {y : Nat} {full tl : List sx_I} {lv : List (Option se_V)} {st : List se_V} {pc : Nat} {lc : List (Nat × Value)} {sc : List Value} {cb sb : Nat} {M : se_M} {K : List se_F} {Kc : List mm_Fr} {P : se_P} {L : Option se_M} {mc : List mm_C} {l : List se_S}
theorem se_jx {j : Int32} {n : Nat} (h0 : 0 ≤ j.toInt) (h1 : j.toInt < (n : Int)) : ¬ (j < 0 ∨ n ≤ j.toNatClampNeg) := by
  have e : j.toNatClampNeg = j.toInt.toNat := rfl
  rw [e, Int32.lt_iff_toInt_lt]
  have : (0 : Int32).toInt = 0 := by decide
  omega
theorem se_tc_arr {t : Nat} {q n : Nat} {ft : FieldType} {segs : List (Nat × Nat × List se_K)} (htm : se_tm ty tt mc) (hq : ty q = some t) (e : tt t = (none, ft, n, segs)) : ∃ xs, mc[q]? = some (.inl (ft, xs)) ∧ xs.length = n ∧ ∀ i, i < n → ∃ x, xs[i]? = some x ∧ se_k ty (se_seg segs i) x := by
  have h := htm q t hq
  unfold se_tc at h
  rw [e] at h
  exact h
theorem se_tc_obj {t : Nat} {q n ci : Nat} {ft : FieldType} {segs : List (Nat × Nat × List se_K)} (htm : se_tm ty tt mc) (hq : ty q = some t) (e : tt t = (some ci, ft, n, segs)) : ∃ xs, mc[q]? = some (.inr (ci, xs)) ∧ xs.length = n ∧ ∀ i, i < n → ∃ x, xs[i]? = some x ∧ se_k ty (se_seg segs i) x := by
  have h := htm q t hq
  unfold se_tc at h
  rw [e] at h
  exact h
theorem se_ald_ok {ins : Instr} {len : Nat} {k : List se_D → se_M → List se_V → se_R} (h : se_ald tt ds M P ins len st k = some l) (he : se_env ty ρ ds) (hp : se_pf ρ P) (hM : se_mf ρ M mc) (htm : se_tm ty tt mc) (hst : sx_r2 (se_sv ρ) st sc) : ∃ j q ft xs x rc, len = 1 ∧ sc = .int j :: .ref q :: rc ∧ mc[q]? = some (.inl (ft, xs)) ∧ sx_tyI ins ft = true ∧ ¬ (j < 0 ∨ xs.length ≤ j.toNatClampNeg) ∧ xs[j.toNatClampNeg]? = some x ∧ ∃ δ ds' M' st', k ds' M' st' = some l ∧ se_env ty (ρ ++ δ) ds' ∧ se_mf (ρ ++ δ) M' mc ∧ sx_r2 (se_sv (ρ ++ δ)) st' (x :: rc) := by
  unfold se_ald at h
  split at h
  · next i r s =>
    have hq := sx_r2_cons hst; clear hst; obtain ⟨b1, rc, rfl, g1, hst⟩ := hq
    have hq := sx_r2_cons hst; clear hst; obtain ⟨b2, rc, rfl, g2, hst⟩ := hq
    split at h
    · next t et =>
      split at h
      · next ft n segs en =>
        split at h
        · next e1 =>
          obtain ⟨rfl, e2, e3⟩ := e1
          obtain ⟨q, rfl, hq⟩ := se_ref he g2 et
          obtain ⟨xs, x1, x2, x3⟩ := se_tc_arr htm hq en
          obtain ⟨j, rfl, j1, j2, δ, ds', M', v, x, k1, k2, k3, k4, k5, k6⟩ := se_load_ok (tt := tt) (t := t) h he hp hM htm g2 hq (by rw [en]) (by rw [en]) g1
          refine ⟨j, q, ft, xs, x, rc, rfl, rfl, x1, e2, se_jx j1 (by rw [x2]; exact j2), ?_, δ, ds', M', _, k1, k2, k3, k4, se_sv_app δ hst⟩
          unfold se_get at k5
          rw [x1] at k5
          exact k5
        · cases h
      · cases h
    · cases h
  · cases h
theorem se_set_arr {q i : Nat} {ft : FieldType} {xs : List Value} {x : Value} (h : mc[q]? = some (.inl (ft, xs))) : se_set mc q i x = mc.set q (.inl (ft, xs.set i x)) := by
  unfold se_set
  rw [h]
theorem se_set_obj {q i ci : Nat} {xs : List Value} {x : Value} (h : mc[q]? = some (.inr (ci, xs))) : se_set mc q i x = mc.set q (.inr (ci, xs.set i x)) := by
  unfold se_set
  rw [h]
theorem se_ast_ok (hJ : se_Jz ty Z J) (hkx : ∀ p t, ty p = some t → tw ≤ t → kx ≤ p) {ins : Instr} {len : Nat} {k : se_M → Option se_M → List se_V → se_R} (h : se_ast tt W Z tw ds M P L ins len st k = some l) (he : se_env ty ρ ds) (hX : se_X ty tt W J m0 ρ y M K Kc P L mc) (hst : sx_r2 (se_sv ρ) st sc) : ∃ x j q ft xs rc, len = 1 ∧ sc = .int x :: .int j :: .ref q :: rc ∧ mc[q]? = some (.inl (ft, xs)) ∧ sx_tyI ins ft = true ∧ kx ≤ q ∧ ¬ (j < 0 ∨ xs.length ≤ j.toNatClampNeg) ∧ narrow ft (.int x) = .int x ∧ ∃ M' L' st', k M' L' st' = some l ∧ sx_r2 (se_sv ρ) st' rc ∧ se_X ty tt W J m0 ρ y M' K Kc P L' (mc.set q (.inl (ft, xs.set j.toNatClampNeg (.int x)))) := by
  unfold se_ast at h
  split at h
  · next v i r s =>
    have hq := sx_r2_cons hst; clear hst; obtain ⟨b0, rc, rfl, g0, hst⟩ := hq
    have hq := sx_r2_cons hst; clear hst; obtain ⟨b1, rc, rfl, g1, hst⟩ := hq
    have hq := sx_r2_cons hst; clear hst; obtain ⟨b2, rc, rfl, g2, hst⟩ := hq
    split at h
    · next t et =>
      split at h
      · next ft n segs lo hi en er =>
        split at h
        · next e1 =>
          obtain ⟨rfl, e2, e3, e4, e5⟩ := e1
          obtain ⟨q, rfl, hq⟩ := se_ref he g2 et
          obtain ⟨x, rfl, a1, a2⟩ := se_int he g0 e4
          rw [er] at a1 a2
          obtain ⟨xs, x1, x2, x3⟩ := se_tc_arr hX.2.2.2.2.2.1 hq en
          obtain ⟨j, rfl, j1, j2, j3, M', L', k1, k2⟩ := se_store_ok hJ h he hX g2 hq (by rw [en]) (by rw [en]) g1 g0
          rw [se_set_arr x1] at k2
          exact ⟨x, j, q, ft, xs, rc, rfl, rfl, x1, e2, hkx q t hq j3, se_jx j1 (by rw [x2]; exact j2), (se_nar_ok e5 a1 a2).1, M', L', _, k1, hst, k2⟩
        · cases h
      · cases h
    · cases h
  · cases h
theorem se_astl_ok (hJ : se_Jz ty Z J) (hkx : ∀ p t, ty p = some t → tw ≤ t → kx ≤ p) {len : Nat} {k : se_M → Option se_M → List se_V → se_R} (h : se_astl tt W Z tw ds M P L len st k = some l) (he : se_env ty ρ ds) (hX : se_X ty tt W J m0 ρ y M K Kc P L mc) (hst : sx_r2 (se_sv ρ) st sc) : ∃ x j q xs rc, len = 1 ∧ sc = .long x :: .int j :: .ref q :: rc ∧ mc[q]? = some (.inl (.long, xs)) ∧ kx ≤ q ∧ ¬ (j < 0 ∨ xs.length ≤ j.toNatClampNeg) ∧ ∃ M' L' st', k M' L' st' = some l ∧ sx_r2 (se_sv ρ) st' rc ∧ se_X ty tt W J m0 ρ y M' K Kc P L' (mc.set q (.inl (.long, xs.set j.toNatClampNeg (.long x)))) := by
  unfold se_astl at h
  split at h
  · next v i r s =>
    have hq := sx_r2_cons hst; clear hst; obtain ⟨b0, rc, rfl, g0, hst⟩ := hq
    have hq := sx_r2_cons hst; clear hst; obtain ⟨b1, rc, rfl, g1, hst⟩ := hq
    have hq := sx_r2_cons hst; clear hst; obtain ⟨b2, rc, rfl, g2, hst⟩ := hq
    split at h
    · next t et =>
      split at h
      · next n segs en =>
        split at h
        · next e1 =>
          obtain ⟨rfl, e3, e4, e5⟩ := e1
          obtain ⟨q, rfl, hq⟩ := se_ref he g2 et
          obtain ⟨x, rfl⟩ := se_long he g0 e4
          obtain ⟨xs, x1, x2, x3⟩ := se_tc_arr hX.2.2.2.2.2.1 hq en
          obtain ⟨j, rfl, j1, j2, j3, M', L', k1, k2⟩ := se_store_ok hJ h he hX g2 hq (by rw [en]) (by rw [en]) g1 g0
          rw [se_set_arr x1] at k2
          exact ⟨x, j, q, xs, rc, rfl, rfl, x1, hkx q t hq j3, se_jx j1 (by rw [x2]; exact j2), M', L', _, k1, hst, k2⟩
        · cases h
      · cases h
    · cases h
  · cases h
theorem se_kint (k : Nat) : (Int32.ofInt (k : Int)).toInt = (k : Int) → (Int32.ofInt (k : Int)).toInt.toNat = k := fun e => by rw [e]; exact Int.toNat_natCast k
theorem se_getf_ok {len kd ci k : Nat} {kk : List se_D → se_M → List se_V → se_R} (h : se_getf tt ds M P len kd ci k st kk = some l) (he : se_env ty ρ ds) (hp : se_pf ρ P) (hM : se_mf ρ M mc) (htm : se_tm ty tt mc) (hst : sx_r2 (se_sv ρ) st sc) : ∃ q xs x rc, len = 3 ∧ (kd = 0 ∨ kd = 1) ∧ sc = .ref q :: rc ∧ mc[q]? = some (.inr (ci, xs)) ∧ xs[k]? = some x ∧ ∃ δ ds' M' st', kk ds' M' st' = some l ∧ se_env ty (ρ ++ δ) ds' ∧ se_mf (ρ ++ δ) M' mc ∧ sx_r2 (se_sv (ρ ++ δ)) st' (x :: rc) := by
  unfold se_getf at h
  split at h
  · next r s =>
    have hq := sx_r2_cons hst; clear hst; obtain ⟨b2, rc, rfl, g2, hst⟩ := hq
    split at h
    · next t et =>
      split at h
      · next ci' ft n segs en =>
        split at h
        · next e1 =>
          obtain ⟨rfl, e2, rfl, e3⟩ := e1
          obtain ⟨q, rfl, hq⟩ := se_ref he g2 et
          obtain ⟨xs, x1, x2, x3⟩ := se_tc_obj htm hq en
          obtain ⟨j, ej, j1, j2, δ, ds', M', v, x, k1, k2, k3, k4, k5, k6⟩ := se_load_ok (tt := tt) (t := t) h he hp hM htm g2 hq (by rw [en]) (by rw [en]) (se_v_c ρ 0 _)
          cases ej
          unfold se_get at k5
          rw [x1] at k5
          refine ⟨q, xs, x, rc, rfl, e2, rfl, x1, ?_, δ, ds', M', _, k1, k2, k3, k4, se_sv_app δ hst⟩
          have hin : (Int32.ofInt (k : Int)).toInt = (k : Int) := by
            unfold se_load at h
            split at h
            · next ex =>
              unfold se_ix at ex
              rw [Bool.and_eq_true, Bool.or_eq_true] at ex
              rcases ex.2 with z | z
              · have z : (se_le 0 (se_fit (k : Int) (k : Int)).1 && decide ((se_fit (k : Int) (k : Int)).2 < (n : Int))) = true := z
                rw [Bool.and_eq_true, se_le_iff] at z
                have := se_fit_in z.1
                exact se_ofInt this.1 this.2
              · rw [Bool.and_eq_true] at z
                have z2 := z.1
                unfold se_lub at z2
                split at z2
                · next eo =>
                  rw [Bool.and_eq_true] at eo
                  obtain ⟨n1, en1, q1, _⟩ := se_okv_ok he (se_v_c ρ 0 (k : Int)) eo.2
                  cases en1
                  rw [q1]
                  show 0 * _ + (k : Int) = _
                  omega
                · cases z2
            · cases h
          rw [se_kint k hin] at k5
          exact k5
        · cases h
      · cases h
    · cases h
  · cases h
end SEO
