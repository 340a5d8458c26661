/-! ===== runs with the callers that wait ===== -/
theorem mm_run_mono (kx : Nat) (zs : List mm_Zt) : ∀ (n : Nat) (d : Nat) (fi : mm_Fi) (σ τ : mm_S), mm_run kx zs n d fi σ = some τ → mm_run kx zs (n + 1) d fi σ = some τ := by
  intro n
  induction n with
  | zero => intro d fi σ τ h; cases h
  | succ n ih =>
    intro d fi σ τ h
    unfold mm_run at h
    rw [mm_run]
    split at h
    · next ins len hd =>
      (try rw [hd])
      (try dsimp only)
      split at h
      · next hr => rw [if_pos hr]; exact h
      · next hr =>
        rw [if_neg hr]
        split at h
        · next σ₁ hst => (try rw [hst]); (try dsimp only); exact ih _ _ _ _ h
        · next hst =>
          (try rw [hst])
          (try dsimp only)
          split at h
          · cases h
          · next d' =>
            (try dsimp only)
            split at h
            · cases h
            · next y As rest hcal =>
              (try rw [hcal])
              (try dsimp only)
              split at h
              · cases h
              · next t ht =>
                (try rw [ht])
                (try dsimp only)
                split at h
                · next hb =>
                  rw [if_pos hb]
                  split at h
                  · cases h
                  · next τ' hτ =>
                    rw [ih _ _ _ _ hτ]
                    (try dsimp only)
                    split at h
                    · cases h
                    · next v hv =>
                      (try rw [hv])
                      (try dsimp only)
                      exact ih _ _ _ _ h
                · cases h
    · cases h
theorem mm_run_le (kx : Nat) (zs : List mm_Zt) {n n' : Nat} (hn : n ≤ n') {d : Nat} {fi : mm_Fi} {σ τ : mm_S} (h : mm_run kx zs n d fi σ = some τ) : mm_run kx zs n' d fi σ = some τ := by
  induction hn with
  | refl => exact h
  | step _ ih => exact mm_run_mono kx zs _ _ _ _ _ ih
abbrev mm_Fr : Type := mm_Fi × mm_Mt × Nat × List (Nat × Value) × List Value × Nat × Nat
def mm_T (kx : Nat) (zs : List mm_Zt) (P : mm_S → Prop) : List mm_Fr → Nat → mm_Fi → mm_S → Prop
  | [], d, fi, σ => ∃ n τ, mm_run kx zs n d fi σ = some τ ∧ P τ
  | f :: K, d, fi, σ => ∃ n τ v, mm_run kx zs n d fi σ = some τ ∧ mm_ret f.2.1 τ = some v ∧ mm_T kx zs P K (d + 1) f.1 (f.2.2.1, f.2.2.2.1, v.toList ++ f.2.2.2.2.1, τ.2.2.2.1, f.2.2.2.2.2.1, f.2.2.2.2.2.2)
theorem mm_T_pre {kx : Nat} {zs : List mm_Zt} {P : mm_S → Prop} {K : List mm_Fr} {d : Nat} {fi : mm_Fi} {σ σ' : mm_S} (h : ∀ n τ, mm_run kx zs n d fi σ' = some τ → ∃ n', mm_run kx zs n' d fi σ = some τ) (hT : mm_T kx zs P K d fi σ') : mm_T kx zs P K d fi σ := by
  cases K with
  | nil =>
    obtain ⟨n, τ, h1, h2⟩ := hT
    obtain ⟨n', h3⟩ := h n τ h1
    exact ⟨n', τ, h3, h2⟩
  | cons f K =>
    obtain ⟨n, τ, v, h1, h2, h4⟩ := hT
    obtain ⟨n', h3⟩ := h n τ h1
    exact ⟨n', τ, v, h3, h2, h4⟩
theorem mm_T_step {kx : Nat} {zs : List mm_Zt} {P : mm_S → Prop} {K : List mm_Fr} {d : Nat} {fi : mm_Fi} {σ σ' : mm_S} {ins : Instr} {len : Nat} (hd : decode fi.2.1 σ.1 = .ok (ins, len)) (hr : mm_isR ins = false) (hs : mm_stp fi.1 fi.2.2.1 kx fi.2.2.2 zs ins len σ = some σ') (hT : mm_T kx zs P K d fi σ') : mm_T kx zs P K d fi σ := by
  refine mm_T_pre (fun n τ h => ⟨n + 1, ?_⟩) hT
  unfold mm_run
  rw [hd]
  simp only [hr, hs]
  exact h
theorem mm_T_fin {kx : Nat} {zs : List mm_Zt} {P : mm_S → Prop} {d : Nat} {fi : mm_Fi} {σ : mm_S} {ins : Instr} {len : Nat} (hd : decode fi.2.1 σ.1 = .ok (ins, len)) (hr : mm_isR ins = true) (hP : P σ) : mm_T kx zs P [] d fi σ := by
  refine ⟨1, σ, ?_, hP⟩
  unfold mm_run
  rw [hd]
  simp only [hr, if_true]
theorem mm_T_ret {kx : Nat} {zs : List mm_Zt} {P : mm_S → Prop} {K : List mm_Fr} {f : mm_Fr} {d : Nat} {fi : mm_Fi} {σ : mm_S} {ins : Instr} {len : Nat} {v : Option Value} (hd : decode fi.2.1 σ.1 = .ok (ins, len)) (hr : mm_isR ins = true) (hv : mm_ret f.2.1 σ = some v) (hT : mm_T kx zs P K (d + 1) f.1 (f.2.2.1, f.2.2.2.1, v.toList ++ f.2.2.2.2.1, σ.2.2.2.1, f.2.2.2.2.2.1, f.2.2.2.2.2.2)) : mm_T kx zs P (f :: K) d fi σ := by
  refine ⟨1, σ, v, ?_, hv, hT⟩
  unfold mm_run
  rw [hd]
  simp only [hr, if_true]
theorem mm_T_call {kx : Nat} {zs : List mm_Zt} {P : mm_S → Prop} {K : List mm_Fr} {d y : Nat} {fi : mm_Fi} {pc cb sb : Nat} {lv : List (Nat × Value)} {st : List Value} {mem : List mm_C} {ins : Instr} {len : Nat} {As rest : List Value} {t : mm_Mt} (hd : decode fi.2.1 pc = .ok (ins, len)) (hr : mm_isR ins = false) (hs : mm_stp fi.1 fi.2.2.1 kx fi.2.2.2 zs ins len (pc, lv, st, mem, cb, sb) = none) (hc : mm_cal fi.1 ins len st mem = some (y, As, rest)) (ht : mm_mths[y]? = some t) (hb : (lg_sl As).length ≤ t.2.2.2.1 ∧ (mm_bud y).1 ≤ cb ∧ (mm_bud y).2 ≤ sb)
    (hT : mm_T kx zs P ((fi, t, pc + 3, lv, rest, cb - (mm_bud y).1, sb - (mm_bud y).2) :: K) d (mm_fi t) (mm_ent y As mem)) : mm_T kx zs P K (d + 1) fi (pc, lv, st, mem, cb, sb) := by
  obtain ⟨n, τ, v, h1, h2, h3⟩ := hT
  refine mm_T_pre (fun n2 τ2 h => ⟨max n n2 + 1, ?_⟩) h3
  unfold mm_run
  rw [hd]
  simp only [hr, hs, hc, ht]
  rw [if_pos hb, mm_run_le kx zs (Nat.le_max_left n n2) h1]
  simp only [h2]
  exact mm_run_le kx zs (Nat.le_max_right n n2) h
