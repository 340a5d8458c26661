/-! ===== symbolic runs: what the step needs ===== -/
def sx_ix : Instr → Option Nat
  | .getfield i => some i
  | .putfield i => some i
  | .invokevirtual i => some i
  | .invokestatic i => some i
  | .invokespecial i => some i
  | .ldc i => some i
  | .ldc_w i => some i
  | .ldc2_w i => some i
  | .new i => some i
  | .anewarray i => some i
  | .getstatic i => some i
  | _ => none
theorem sx_ckp {o : Nat} {bytes : ByteArray} {e : sx_I} {idx : Nat} (h : sx_chk o bytes e = true) (hi : sx_ix e.2.1 = some idx) : sx_pl o idx e = true := by
  unfold sx_chk at h
  rw [Bool.and_eq_true] at h
  have h2 := h.2
  unfold sx_ix at hi
  split at hi <;> first | (cases hi; next he => rw [he] at h2; exact h2) | cases hi
section SXH
variable {kx : Nat} {zs : List mm_Zt} {P : mm_S → Prop} {env : Nat → Int32} {mem : List sx_C} {st : List sx_V} {l : List sx_S} {sc : List Value} {mc : List mm_C}
theorem sx_cat1 {v : sx_V} {w : Value} (hg : sx_g env v w) (h : sx_cat v = 1) : w.category = 1 := by
  refine sx_cat_isL hg ?_
  unfold sx_cat at h
  cases hL : sx_is2 v with
  | true => rw [hL] at h; simp at h
  | false => rfl
theorem sx_get_ok {o idx pc len kd ci k : Nat} {ins : Instr} {z : Int} {kk : List sx_V → sx_R} (hpl : sx_pl o idx (pc, ins, len, kd, ci, k, z) = true) (h : sx_get len kd ci k st mem kk = some l) (hst : sx_r2 (sx_g env) st sc) (hm : sx_r2 (sx_gc env) mem mc) : ∃ (v : List sx_V × Nat) (w : Value) (q : Nat) (rc ws : List Value), len = 3 ∧ (kd = 0 ∨ kd = 1) ∧ sc = .ref q :: rc ∧ mc[q]? = some (.inr (ci, ws)) ∧ ws[k]? = some w ∧ mm_look o idx = some (idx, kd, ci, k, z, v.2) ∧ kk v.1 = some l ∧ sx_r2 (sx_g env) v.1 (w :: rc) := by
  unfold sx_get at h
  split at h
  · next a r =>
    have hq := sx_r2_cons hst; clear hst; obtain ⟨b1, rc, rfl, g1, hst⟩ := hq
    cases g1
    split at h
    · next ci' fs e1 =>
      split at h
      · next v e2 =>
        split at h
        · next e3 =>
          obtain ⟨rfl, hkd, rfl⟩ := e3
          obtain ⟨pl, hlk⟩ := sx_pl_ok hpl (by rcases hkd with rfl | rfl <;> decide)
          obtain ⟨c, hc1, hc2⟩ := sx_r2_get hm e1
          obtain ⟨ws, rfl, hw⟩ := sx_gc_obj hc2
          obtain ⟨w, hw1, hw2⟩ := sx_r2_get hw e2
          exact ⟨(v :: r, pl), w, a, rc, ws, rfl, hkd, rfl, hc1, hw1, hlk, h, hw2, hst⟩
        · cases h
      · cases h
    · cases h
  · cases h
theorem sx_put_ok {o idx pc len kd ci k : Nat} {ini : Bool} {ins : Instr} {z : Int} {kk : List sx_C → List sx_V → sx_R} (hpl : sx_pl o idx (pc, ins, len, kd, ci, k, z) = true) (h : sx_put o kx ini len kd ci k st mem kk = some l) (hst : sx_r2 (sx_g env) st sc) (hm : sx_r2 (sx_gc env) mem mc) : ∃ (x : Value) (q : Nat) (rc ws : List Value) (u : vw_C) (r : List sx_V × Nat) (mem2 : List sx_C), len = 3 ∧ sc = x :: .ref q :: rc ∧ mc[q]? = some (.inr (ci, ws)) ∧ vwCl[ci]? = some u ∧ kx ≤ q ∧ narrow (mm_ty ci k) x = x ∧ fits (mm_ty ci k) x = true ∧ (((kd = 0 ∨ kd = 1) ∧ (u.2.1 k).2.2.2 = false) ∨ (kd = 0 ∧ (u.2.1 k).2.2.2 = true ∧ ini = true ∧ mm_cns[o]? = some (u.2.1 k).1)) ∧ mm_look o idx = some (idx, kd, ci, k, z, r.2) ∧ kk mem2 r.1 = some l ∧ sx_r2 (sx_g env) r.1 rc ∧ sx_r2 (sx_gc env) mem2 (mc.set q (.inr (ci, ws.set k x))) := by
  unfold sx_put at h
  split at h
  · next v a r =>
    have hq := sx_r2_cons hst; clear hst; obtain ⟨x, rc, rfl, g0, hst⟩ := hq
    have hq := sx_r2_cons hst; clear hst; obtain ⟨b1, rc, rfl, g1, hst⟩ := hq
    cases g1
    split at h
    · next ci' fs e1 =>
      split at h
      · next u e2 =>
        split at h
        · next e3 =>
          obtain ⟨rfl, rfl, hka, hf, hkd⟩ := e3
          obtain ⟨pl, hlk⟩ := sx_pl_ok hpl (by rcases hkd with ⟨rfl | rfl, -⟩ | ⟨rfl, -⟩ <;> decide)
          obtain ⟨c, hc1, hc2⟩ := sx_r2_get hm e1
          obtain ⟨ws, rfl, hw⟩ := sx_gc_obj hc2
          rw [sx_setK_eq, sx_setK_eq] at h
          obtain ⟨hn, hft⟩ := sx_fit_ok hf g0
          exact ⟨x, a, rc, ws, u, (r, pl), _, rfl, rfl, hc1, e2, Nat.le_of_ble_eq_true hka, hn, hft, hkd, hlk, h, hst, sx_r2_set (show sx_gc env (.inr (ci', fs.set k v)) (.inr (ci', ws.set k x)) from ⟨rfl, sx_r2_set g0 hw k⟩) hm a⟩
        · cases h
      · cases h
    · cases h
  · cases h
theorem sx_r2_map {α : Type} {f : α → sx_V} {g : α → Value} (h : ∀ x, sx_g env (f x) (g x)) : ∀ l : List α, sx_r2 (sx_g env) (l.map f) (l.map g)
  | [] => trivial
  | x :: l => ⟨h x, sx_r2_map h l⟩
theorem sx_new_g (env : Nat → Int32) (a n : Nat) : sx_gc env (.inr (a, (List.range n).map (fun k => .inl (defaultValue (mm_ty a k))))) (.inr (a, (List.range n).map (fun k => defaultValue (mm_ty a k)))) := ⟨rfl, sx_r2_map (f := fun k => .inl (defaultValue (mm_ty a k))) (g := fun k => defaultValue (mm_ty a k)) (fun _ => rfl) _⟩
theorem sx_rep_g (env : Nat → Int32) (ty : FieldType) (n : Nat) (d : Value) : sx_gc env (.inl (ty, n, .inl d, [])) (.inl (ty, List.replicate n d)) := ⟨rfl, by simp, fun j hj => ⟨d, by simp [hj], rfl⟩⟩
theorem sx_rd_isI {j : Nat} {df : sx_V} (hdf : sx_isI df = true) : ∀ {up : List (Nat × sx_V)}, up.all (fun e => sx_isI e.2) = true → sx_isI (sx_rd up j df) = true
  | [], _ => hdf
  | (i, v) :: t, h => by
    rw [sx_rd_cons]
    simp only [List.all_cons, Bool.and_eq_true] at h
    split
    · exact h.1
    · exact sx_rd_isI hdf h.2
theorem sx_arr_int {n : Nat} {df : sx_V} {up : List (Nat × sx_V)} {xs : List Value} (h1 : xs.length = n) (h2 : ∀ j, j < n → ∃ x, xs[j]? = some x ∧ sx_g env (sx_rd up j df) x) (hdf : sx_isI df = true) (hup : up.all (fun e => sx_isI e.2) = true) : xs.all (fun v => fits .int v) = true := by
  rw [List.all_eq_true]
  intro v hv
  obtain ⟨j, hj⟩ := List.getElem?_of_mem hv
  have hlt := (List.getElem?_eq_some_iff.mp hj).1
  obtain ⟨x, q1, q2⟩ := h2 j (by omega)
  cases hj.symm.trans q1
  obtain ⟨i, rfl⟩ := sx_isI_g (sx_rd_isI hdf hup) q2
  rfl
theorem mm_sp9 {o idx a b pl pc cb sb s d : Nat} {z : Int} {lc : List (Nat × Value)} {rc : List Value} {n dp sp : Int32} (hlk : mm_look o idx = some (idx, 9, a, b, z, pl)) : mm_spS o kx 3 idx (pc, lc, .int n :: .int dp :: .ref d :: .int sp :: .ref s :: rc, mc, cb, sb) = if 3 = 3 ∧ idx = idx then (match mc[s]?, mc[d]? with
        | some (.inl (ty, xs)), some (.inl (ty', ys)) => if (rc.map fun v => v.category).sum ≤ 8 ∧ kx ≤ s ∧ kx ≤ d ∧ ty' = ty ∧ refKind ty = false ∧ ¬ sp < 0 ∧ ¬ dp < 0 ∧ ¬ n < 0 ∧ sp.toNatClampNeg + n.toNatClampNeg ≤ xs.length ∧ dp.toNatClampNeg + n.toNatClampNeg ≤ ys.length ∧ xs.all (fun v => fits ty v) = true then some (pc + 3, lc, rc, mc.set d (.inl (ty, mm_cpy xs ys sp.toNatClampNeg dp.toNatClampNeg n.toNatClampNeg)), cb, sb) else none
        | _, _ => none) else none := by
  unfold mm_spS
  dsimp only
  rw [hlk]
  rfl
theorem mm_sp13 {o idx a b pl pc cb sb : Nat} {z : Int} {lc : List (Nat × Value)} {rc : List Value} {v u : Int32} (hlk : mm_look o idx = some (idx, 13, a, b, z, pl)) (h : (rc.map fun v => v.category).sum ≤ 8) : mm_spS o kx 3 idx (pc, lc, .int v :: .int u :: rc, mc, cb, sb) = some (pc + 3, lc, .int (if u < v then v else u) :: rc, mc, cb, sb) := by
  have e : mm_spS o kx 3 idx (pc, lc, .int v :: .int u :: rc, mc, cb, sb) = if 3 = 3 ∧ idx = idx then (if (rc.map fun v => v.category).sum ≤ 8 then some (pc + 3, lc, .int (if u < v then v else u) :: rc, mc, cb, sb) else none) else none := by
    unfold mm_spS
    dsimp only
    rw [hlk]
    rfl
  rw [e, if_pos ⟨rfl, rfl⟩, if_pos h]
theorem mm_sp14 {o idx a b pl pc cb sb : Nat} {z : Int} {lc : List (Nat × Value)} {rc : List Value} {v u : Int32} (hlk : mm_look o idx = some (idx, 14, a, b, z, pl)) (h : (rc.map fun v => v.category).sum ≤ 8) : mm_spS o kx 3 idx (pc, lc, .int v :: .int u :: rc, mc, cb, sb) = some (pc + 3, lc, .int (if v < u then v else u) :: rc, mc, cb, sb) := by
  have e : mm_spS o kx 3 idx (pc, lc, .int v :: .int u :: rc, mc, cb, sb) = if 3 = 3 ∧ idx = idx then (if (rc.map fun v => v.category).sum ≤ 8 then some (pc + 3, lc, .int (if v < u then v else u) :: rc, mc, cb, sb) else none) else none := by
    unfold mm_spS
    dsimp only
    rw [hlk]
    rfl
  rw [e, if_pos ⟨rfl, rfl⟩, if_pos h]
theorem sx_cpy_stp {o nL idx a b pl pc cb sb s d : Nat} {ini : Bool} {z : Int} {lc : List (Nat × Value)} {rc xs ys : List Value} {n : Int32} (hlk : mm_look o idx = some (idx, 9, a, b, z, pl)) (hsum : (rc.map fun v => v.category).sum ≤ 8) (hks : kx ≤ s) (hkd : kx ≤ d) (hn : ¬ n < 0) (k1 : mc[s]? = some (.inl (.int, xs))) (k3 : mc[d]? = some (.inl (.int, ys))) (hl1 : xs.length = n.toNatClampNeg) (hl2 : xs.length = ys.length) (hall : xs.all (fun v => fits .int v) = true) : mm_stp o nL kx ini zs (.invokestatic idx) 3 (pc, lc, .int n :: .int 0 :: .ref d :: .int 0 :: .ref s :: rc, mc, cb, sb) = some (pc + 3, lc, rc, mc.set d (.inl (.int, xs)), cb, sb) := by
  show mm_spS o kx 3 idx (pc, lc, .int n :: .int 0 :: .ref d :: .int 0 :: .ref s :: rc, mc, cb, sb) = _
  rw [mm_sp9 hlk, if_pos ⟨rfl, rfl⟩, k1, k3]
  dsimp only
  have h0 : (0 : Int32).toNatClampNeg = 0 := by decide
  rw [if_pos ⟨hsum, hks, hkd, rfl, rfl, by decide, by decide, hn, by rw [h0]; omega, by rw [h0]; omega, hall⟩]
  have : mm_cpy xs ys (0 : Int32).toNatClampNeg (0 : Int32).toNatClampNeg n.toNatClampNeg = xs := by
    rw [h0]
    unfold mm_cpy
    apply List.ext_getElem?
    intro i
    rw [List.getElem?_map]
    by_cases hi : i < ys.length
    · rw [List.getElem?_range hi]
      have hi2 : i < xs.length := by omega
      simp only [Option.map_some, Nat.zero_le, true_and, Nat.zero_add, Nat.sub_zero]
      rw [if_pos (by omega)]
      simp [hi2]
    · simp [hi]
      omega
  rw [this]
end SXH
