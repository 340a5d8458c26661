/-! ===== the law's start: both constructors, then the loop ===== -/
theorem st_rd_map {f : Nat → sx_V} {df : sx_V} {j : Nat} : ∀ {js : List Nat}, j ∈ js → sx_rd (js.map (fun i => (i, f i))) j df = f j
  | i :: js, h => by
    simp only [List.map_cons]
    rw [sx_rd_cons]
    by_cases e : i = j
    · rw [if_pos e, e]
    · rw [if_neg e]
      rcases List.mem_cons.mp h with h | h
      · exact absurd h.symm e
      · exact st_rd_map h
theorem st_inl (env : Nat → Int32) : ∀ fs : List Value, sx_r2 (sx_g env) (fs.map .inl) fs
  | [] => trivial
  | _ :: t => ⟨rfl, st_inl env t⟩
theorem st_of_g (env : Nat → Int32) (c : mm_C) : sx_gc env (st_of c) c := by
  cases c with
  | inr a => exact ⟨rfl, st_inl env a.2⟩
  | inl a =>
    obtain ⟨t, xs⟩ := a
    refine ⟨rfl, rfl, fun j hj => ⟨xs[j], by simp [hj], ?_⟩⟩
    rw [st_rd_map (f := fun j => .inl (xs.getD j .null)) (List.mem_range.mpr hj)]
    show xs[j] = xs.getD j .null
    simp [hj]
theorem st_ofs (env : Nat → Int32) : ∀ l : List mm_C, sx_r2 (sx_gc env) (l.map st_of) l
  | [] => trivial
  | c :: t => ⟨st_of_g env c, st_ofs env t⟩
def st_d (ci n : Nat) : mm_C := .inr (ci, (List.range n).map (fun k => defaultValue (mm_ty ci k)))
set_option maxRecDepth 100000 in
theorem st_cod218 : sx_cods[218]? = some sx_c218 := rfl
/-- a constructor's run, whatever stands in the script's place -/
theorem st_ini {v : Value} {k y p nL : Nat} {cy : List sx_I} {mem : List sx_C} {S' : sx_S} {t : mm_Mt} (ht : mm_mths[y]? = some t) (hc : sx_cods[y]? = some cy) (hnL : t.2.2.2.1 = nL) (hlen : 1 ≤ nL) (hret : t.2.2.2.2.1 = none) (h : st_to 38 st_zs k (st_S y p cy nL mem) = some S') (hh : st_h S' = true) {env0 : Nat → Int32} (henv : env0 6 = env0 0 &&& 63) {m : List mm_C} (hm : sx_r2 (sx_gc env0) mem (fr_F :: m)) (B : mm_C) {d : Nat} (hd : 99 ≤ d) : ∃ (n : Nat) (τ : mm_S) (m' : List mm_C), mm_run 38 (mm_zs v) n d (mm_fi t) (mm_ent y [.ref p] (B :: m)) = some τ ∧ mm_ret t τ = some none ∧ τ.2.2.2.1 = B :: m' ∧ ∃ env, env 6 = env 0 &&& 63 ∧ sx_r2 (sx_gc env) S'.2.1 (fr_F :: m') := by
  obtain ⟨n, τ, w, r1, r2, env, e1, e2⟩ := st_con ht hc hnL hlen h hh henv hm
  obtain ⟨pc', lv', st', m', cb', sb', rfl, h2⟩ := fr_run (zs' := mm_zs v) (B := B) (st_zsz v) _ _ d _ _ _ _ _ _ _ _ hd r1
  have := st_ret hret r2
  subst this
  exact ⟨n, _, m', h2, r2, rfl, env, e1, e2⟩
