/-! ===== printed by wip/gen_sxok.py: a symbolic step is sound ===== -/
theorem sx_pl_ok {o idx pc len kd a b : Nat} {ins : Instr} {z : Int} (h : sx_pl o idx (pc, ins, len, kd, a, b, z) = true) (hk : kd ≠ 99) : ∃ pl, mm_look o idx = some (idx, kd, a, b, z, pl) := by
  unfold sx_pl at h
  split at h
  · next q e =>
    obtain ⟨q1, q2, q3, q4, q5, q6⟩ := q
    simp only [Bool.and_eq_true, decide_eq_true_eq] at h
    obtain ⟨⟨⟨⟨rfl, rfl⟩, rfl⟩, rfl⟩, rfl⟩ := h
    exact ⟨q6, e⟩
  · exact absurd (of_decide_eq_true h) hk
theorem sx_dec {y : Nat} {full : List sx_I} (hfull : sx_cods[y]? = some full) {e : sx_I} (he : e ∈ full) : decode (sx_fi y).2.1 e.1 = .ok (e.2.1, e.2.2.1) ∧ sx_chk (sx_fi y).1 (sx_fi y).2.1 e = true := by
  have h := List.all_eq_true.mp (sx_tab y full hfull) e he
  have h1 := h
  unfold sx_chk at h1
  rw [Bool.and_eq_true] at h1
  exact ⟨of_decide_eq_true h1.1, h⟩
section SXT
variable {kx : Nat} {zs : List mm_Zt} {P : mm_S → Prop} {env : Nat → Int32} {iv : List (Nat × Nat)} {mem : List sx_C} {y : Nat} {full tl : List sx_I} {lv : List (Option sx_V)} {st : List sx_V} {cb sb : Nat} {K : List sx_F} {l : List sx_S} {pc : Nat} {lc : List (Nat × Value)} {sc : List Value} {mc : List mm_C} {Kc : List mm_Fr}
theorem sx_enum_ok {S : sx_S} {u : Nat} (h : sx_enum S u = some l) (hG : ∀ S' ∈ l, sx_Good kx zs P S') (hiv : sx_iv env S.1) : ∃ iv', sx_iv env iv' ∧ sx_Good kx zs P (iv', S.2) := by
  unfold sx_enum at h
  split at h
  · next lo hi e1 =>
    split at h
    · cases h
      have h1 := hiv.1 u lo hi e1
      exact ⟨S.1.set u (lo + (sx_off (env u) - lo), lo + (sx_off (env u) - lo) + 1), sx_iv_set hiv ⟨by omega, by omega⟩, hG _ (List.mem_map.mpr ⟨sx_off (env u) - lo, List.mem_range.mpr (by omega), rfl⟩)⟩
    · cases h
  · cases h
theorem sx_ixK_ok {S : sx_S} {j : sx_V} {n : Nat} {k : Nat → sx_R} (h : sx_ixK S j n k = some l) (hG : ∀ S' ∈ l, sx_Good kx zs P S') (hiv : sx_iv env S.1) {w : Value} (hg : sx_g env j w) : (∃ i : Int32, w = .int i ∧ ¬ (i < 0 ∨ n ≤ i.toNatClampNeg) ∧ k i.toNatClampNeg = some l) ∨ ∃ iv', sx_iv env iv' ∧ sx_Good kx zs P (iv', S.2) := by
  have hg := sx_cn_g hiv hg
  unfold sx_ixK at h
  split at h
  · next i e =>
    rw [e] at hg
    split at h
    · cases h
    · next e2 =>
      rw [sx_nK_eq] at h
      exact Or.inl ⟨i, hg, e2, h⟩
  · next u e =>
    rw [e] at hg
    right
    unfold sx_enum at h
    split at h
    · next lo hi e1 =>
      split at h
      · cases h
        have h1 := hiv.1 u lo hi e1
        refine ⟨S.1.set u (lo + (sx_off (env u) - lo), lo + (sx_off (env u) - lo) + 1), sx_iv_set hiv ⟨by omega, by omega⟩, hG _ (List.mem_map.mpr ⟨sx_off (env u) - lo, List.mem_range.mpr (by omega), rfl⟩)⟩
      · cases h
    · cases h
  · cases h
theorem sx_nar_ok {ty : FieldType} {v w : sx_V} {x : Value} (h : sx_nar ty v = some w) (hg : sx_g env v x) : ∃ i, x = .int i ∧ sx_g env w (narrow ty (.int i)) := by
  have hn : ∀ (ty : FieldType) (i : Int32), ∃ k, narrow ty (.int i) = .int k := fun ty i => by cases ty <;> exact ⟨_, rfl⟩
  unfold sx_nar at h
  split at h
  · cases h; exact ⟨_, hg, rfl⟩
  · next k =>
    split at h
    · next e => cases h; subst e; exact ⟨env k, hg, rfl⟩
    · cases h; exact ⟨env k, hg, hn _ _⟩
  · cases h
    obtain ⟨i, rfl⟩ := hg
    exact ⟨i, rfl, hn _ _⟩
  · cases h
theorem sx_fit_ok {ty : FieldType} {v : sx_V} {x : Value} (h : sx_fit ty v = true) (hg : sx_g env v x) : narrow ty x = x ∧ fits ty x = true := by
  unfold sx_fit at h
  split at h
  · rw [Bool.and_eq_true] at h
    cases hg
    exact ⟨of_decide_eq_true h.1, h.2⟩
  · rw [of_decide_eq_true h, show x = _ from hg]; exact ⟨rfl, rfl⟩
  · obtain ⟨i, rfl⟩ := hg; rw [of_decide_eq_true h]; exact ⟨rfl, rfl⟩
  · obtain ⟨i, rfl⟩ := hg; rw [of_decide_eq_true h]; exact ⟨rfl, rfl⟩
  · cases h
theorem sx_gc_arr {ty : FieldType} {n : Nat} {df : sx_V} {up : List (Nat × sx_V)} {c : mm_C} (h : sx_gc env (.inl (ty, n, df, up)) c) : ∃ xs, c = .inl (ty, xs) ∧ xs.length = n ∧ ∀ j, j < n → ∃ x, xs[j]? = some x ∧ sx_g env (sx_rd up j df) x := by
  match c, h with
  | .inl (ty', xs), h => obtain ⟨rfl, h1, h2⟩ := h; exact ⟨xs, rfl, h1, h2⟩
theorem sx_gc_obj {ci : Nat} {fs : List sx_V} {c : mm_C} (h : sx_gc env (.inr (ci, fs)) c) : ∃ ws, c = .inr (ci, ws) ∧ sx_r2 (sx_g env) fs ws := by
  match c, h with
  | .inr (ci', ws), h => obtain ⟨rfl, h1⟩ := h; exact ⟨ws, rfl, h1⟩
theorem sx_gc_upd {ty : FieldType} {n j : Nat} {df w : sx_V} {up : List (Nat × sx_V)} {xs : List Value} {x : Value} (h1 : xs.length = n) (h2 : ∀ j, j < n → ∃ x, xs[j]? = some x ∧ sx_g env (sx_rd up j df) x) (hg : sx_g env w x) : sx_gc env (.inl (ty, n, df, (j, w) :: up)) (.inl (ty, xs.set j x)) := by
  refine ⟨rfl, by simpa using h1, fun i hi => ?_⟩
  rw [sx_rd_cons]
  by_cases e : j = i
  · subst e
    rw [if_pos rfl]
    exact ⟨x, by simp [h1, hi], hg⟩
  · rw [if_neg e, List.getElem?_set_ne e]
    exact h2 i hi
theorem sx_ald_ok {S : sx_S} {ins : Instr} {len : Nat} {k : List sx_V → sx_R} (h : sx_ald S ins len st mem k = some l) (hG : ∀ S' ∈ l, sx_Good kx zs P S') (hiv : sx_iv env S.1) (hst : sx_r2 (sx_g env) st sc) (hm : sx_r2 (sx_gc env) mem mc) : (∃ j a ty xs v rc st', len = 1 ∧ sc = .int j :: .ref a :: rc ∧ mc[a]? = some (.inl (ty, xs)) ∧ sx_tyI ins ty = true ∧ ¬ (j < 0 ∨ xs.length ≤ j.toNatClampNeg) ∧ xs[j.toNatClampNeg]? = some v ∧ k st' = some l ∧ sx_r2 (sx_g env) st' (v :: rc)) ∨ ∃ iv', sx_iv env iv' ∧ sx_Good kx zs P (iv', S.2) := by
  unfold sx_ald at h
  split at h
  · next j a r =>
    have hq := sx_r2_cons hst; clear hst; obtain ⟨b1, t1, rfl, g1, hst⟩ := hq
    have hq := sx_r2_cons hst; clear hst; obtain ⟨b2, t2, rfl, g2, hst⟩ := hq
    cases g2
    split at h
    · next ty n df up e1 =>
      obtain ⟨c, hc1, hc2⟩ := sx_r2_get hm e1
      obtain ⟨xs, rfl, h1, h2⟩ := sx_gc_arr hc2
      split at h
      · next e2 =>
        rcases sx_ixK_ok h hG hiv g1 with ⟨i, rfl, hi, hk⟩ | hr
        · rw [sx_rdK_eq] at hk
          have hlt : i.toNatClampNeg < n := Nat.not_le.mp (fun q => hi (Or.inr q))
          obtain ⟨x, q1, q2⟩ := h2 _ hlt
          exact Or.inl ⟨i, a, ty, xs, x, t2, _, e2.1, rfl, hc1, e2.2, by rw [h1]; exact hi, q1, hk, q2, hst⟩
        · exact Or.inr hr
      · cases h
    · cases h
  · cases h
theorem sx_ast_ok {S : sx_S} {ins : Instr} {len : Nat} {k : List sx_C → List sx_V → sx_R} (h : sx_ast S kx ins len st mem k = some l) (hG : ∀ S' ∈ l, sx_Good kx zs P S') (hiv : sx_iv env S.1) (hst : sx_r2 (sx_g env) st sc) (hm : sx_r2 (sx_gc env) mem mc) : (∃ x j a ty xs rc r mem', len = 1 ∧ sc = .int x :: .int j :: .ref a :: rc ∧ mc[a]? = some (.inl (ty, xs)) ∧ sx_tyI ins ty = true ∧ kx ≤ a ∧ ¬ (j < 0 ∨ xs.length ≤ j.toNatClampNeg) ∧ k mem' r = some l ∧ sx_r2 (sx_g env) r rc ∧ sx_r2 (sx_gc env) mem' (mc.set a (.inl (ty, xs.set j.toNatClampNeg (narrow ty (.int x)))))) ∨ ∃ iv', sx_iv env iv' ∧ sx_Good kx zs P (iv', S.2) := by
  unfold sx_ast at h
  split at h
  · next v j a r =>
    have hq := sx_r2_cons hst; clear hst; obtain ⟨b0, t0, rfl, g0, hst⟩ := hq
    have hq := sx_r2_cons hst; clear hst; obtain ⟨b1, t1, rfl, g1, hst⟩ := hq
    have hq := sx_r2_cons hst; clear hst; obtain ⟨b2, t2, rfl, g2, hst⟩ := hq
    cases g2
    split at h
    · next ty n df up e1 =>
      obtain ⟨c, hc1, hc2⟩ := sx_r2_get hm e1
      obtain ⟨xs, rfl, h1, h2⟩ := sx_gc_arr hc2
      split at h
      · next w hw =>
        obtain ⟨x, rfl, hwg⟩ := sx_nar_ok hw g0
        split at h
        · next e2 =>
          rcases sx_ixK_ok h hG hiv g1 with ⟨i, rfl, hi, hk⟩ | hr
          · rw [sx_setK_eq] at hk
            exact Or.inl ⟨x, i, a, ty, xs, t2, r, _, e2.1, rfl, hc1, e2.2.1, Nat.le_of_ble_eq_true e2.2.2, by rw [h1]; exact hi, hk, hst, sx_r2_set (sx_gc_upd h1 h2 hwg) hm a⟩
          · exact Or.inr hr
        · cases h
      · cases h
    · cases h
  · cases h
theorem sx_asta_ok {S : sx_S} {len : Nat} {k : List sx_C → List sx_V → sx_R} (h : sx_asta S kx len st mem k = some l) (hG : ∀ S' ∈ l, sx_Good kx zs P S') (hiv : sx_iv env S.1) (hst : sx_r2 (sx_g env) st sc) (hm : sx_r2 (sx_gc env) mem mc) : (∃ b j a C ci ws q xs rc r mem', len = 1 ∧ sc = .ref b :: .int j :: .ref a :: rc ∧ mc[a]? = some (.inl (.object C, xs)) ∧ mc[b]? = some (.inr (ci, ws)) ∧ vwCl[ci]? = some q ∧ q.1 = C ∧ kx ≤ a ∧ ¬ (j < 0 ∨ xs.length ≤ j.toNatClampNeg) ∧ k mem' r = some l ∧ sx_r2 (sx_g env) r rc ∧ sx_r2 (sx_gc env) mem' (mc.set a (.inl (.object C, xs.set j.toNatClampNeg (.ref b))))) ∨ ∃ iv', sx_iv env iv' ∧ sx_Good kx zs P (iv', S.2) := by
  unfold sx_asta at h
  split at h
  · next b j a r =>
    have hq := sx_r2_cons hst; clear hst; obtain ⟨b0, t0, rfl, g0, hst⟩ := hq
    have hq := sx_r2_cons hst; clear hst; obtain ⟨b1, t1, rfl, g1, hst⟩ := hq
    have hq := sx_r2_cons hst; clear hst; obtain ⟨b2, t2, rfl, g2, hst⟩ := hq
    cases g2; cases g0
    split at h
    · next C n df up ci fs e1 e0 =>
      obtain ⟨c, hc1, hc2⟩ := sx_r2_get hm e1
      obtain ⟨xs, rfl, h1, h2⟩ := sx_gc_arr hc2
      obtain ⟨c', hd1, hd2⟩ := sx_r2_get hm e0
      obtain ⟨ws, rfl, -⟩ := sx_gc_obj hd2
      split at h
      · next q hq =>
        split at h
        · next e2 =>
          rcases sx_ixK_ok h hG hiv g1 with ⟨i, rfl, hi, hk⟩ | hr
          · rw [sx_setK_eq] at hk
            exact Or.inl ⟨b, i, a, C, ci, ws, q, xs, t2, r, _, e2.1, rfl, hc1, hd1, hq, e2.2.1, Nat.le_of_ble_eq_true e2.2.2, by rw [h1]; exact hi, hk, hst, sx_r2_set (sx_gc_upd h1 h2 (show sx_g env (.inl (.ref b)) (.ref b) from rfl)) hm a⟩
          · exact Or.inr hr
        · cases h
      · cases h
    · cases h
  · cases h
end SXT
