/-! ===== methods by their values: steps on the memory are sound ===== -/
section IVO
variable {L : Nat} {xs : Nat → Int32} {vz : Value} {Q : mm_S → Prop} {ρ : List Int} {μ : iv_M} {d : Nat} {ms : List iv_M} {I : List iv_I} {W : List (List iv_E)} {y : Nat} {full tl : List sx_I} {lv : List (Option iv_V)} {st : List iv_V} {K : List iv_F} {pc : Nat} {lc : List (Nat × Value)} {sc : List Value} {Kc : List mm_Fr} {cb sb : Nat} {l : List (iv_S ⊕ iv_L)} {ins : Instr} {len : Nat}
theorem iv_ms_app : ∀ {W : List (List iv_E)} {ms : List iv_M} {w : List iv_E}, iv_ms L xs ρ ms (W ++ [w]) = iv_ms L xs ρ ms W ++ [iv_mw L xs ρ (iv_ms L xs ρ ms W) w]
  | [], ms, w => rfl
  | a :: W, ms, w => by
    show iv_ms L xs ρ (ms ++ [iv_mw L xs ρ ms a]) (W ++ [w]) = _
    rw [iv_ms_app]
    rfl
theorem iv_ms_len : ∀ {W : List (List iv_E)} {ms : List iv_M}, (iv_ms L xs ρ ms W).length = ms.length + W.length
  | [], ms => rfl
  | a :: W, ms => by
    show (iv_ms L xs ρ (ms ++ [iv_mw L xs ρ ms a]) W).length = _
    rw [iv_ms_len, List.length_append, List.length_cons, List.length_cons, List.length_nil]
    omega
theorem iv_last_app (m : iv_M) : iv_last (ms ++ [m]) = m := by unfold iv_last; exact List.getLastD_concat
theorem iv_wfl_ok {n : Nat} {ms' : List iv_M} (hn : n < ms.length) (h : iv_wfl n lv = true) (hg : iv_gl L xs ρ ms lv lc) : iv_gl L xs ρ (ms ++ ms') lv lc := by
  intro i v hv
  have h1 := List.all_eq_true.mp h _ (List.mem_of_getElem? hv)
  have h2 : iv_e L xs ρ (ms ++ ms') v.2 = iv_e L xs ρ ms v.2 := iv_wf_ok hn h1
  unfold iv_cvs iv_okv
  rw [h2]
  exact hg i v hv
theorem iv_wfs_ok {n : Nat} {ms' : List iv_M} (hn : n < ms.length) (h : st.all (fun v => iv_wf n v.2) = true) (hg : iv_gs L xs ρ ms st sc) : iv_gs L xs ρ (ms ++ ms') st sc := by
  have key : ∀ v ∈ st, iv_e L xs ρ (ms ++ ms') v.2 = iv_e L xs ρ ms v.2 := fun v hv => iv_wf_ok hn (List.all_eq_true.mp h v hv)
  refine ⟨?_, fun v hv => ?_⟩
  · rw [hg.1]
    apply List.map_congr_left
    intro v hv
    unfold iv_cvs
    rw [key v hv]
  · unfold iv_okv
    rw [key v hv]
    exact hg.2 v hv
theorem iv_wfK_ok {n : Nat} {ms' : List iv_M} (hn : n < ms.length) : ∀ {y : Nat} {K : List iv_F} {Kc : List mm_Fr}, K.all (iv_wff n) = true → iv_gK L xs ρ ms y K Kc → iv_gK L xs ρ (ms ++ ms') y K Kc
  | _, [], [], _, _ => trivial
  | _, f :: K, c :: Kc, h, hg => by
    rw [List.all_cons, Bool.and_eq_true] at h
    obtain ⟨g1, g2, ⟨f1, f2, f3, f4, f5, f6⟩, g4⟩ := hg
    have h1 := h.1
    unfold iv_wff at h1
    rw [Bool.and_eq_true] at h1
    exact ⟨g1, g2, ⟨f1, f2, f3, f4, iv_wfl_ok hn h1.1 f5, iv_wfs_ok hn h1.2 f6⟩, iv_wfK_ok hn h.2 g4⟩
  | _, [], _ :: _, _, hg => hg.elim
  | _, _ :: _, [], _, hg => hg.elim
theorem iv_wrt_ok {w : List iv_E} {k : List (List iv_E) → iv_R} (h : iv_wrt I W lv st K w k = some l) (B : iv_B L xs ρ μ ms W y full tl lv K lc Kc) (hI : iv_hI L xs ρ ms I) (hs : iv_gs L xs ρ ms st sc) (hN : iv_N (iv_mw L xs ρ ms w)) : k (W ++ [w]) = some l ∧ iv_B L xs ρ μ (ms ++ [iv_mw L xs ρ ms w]) (W ++ [w]) y full tl lv K lc Kc ∧ iv_hI L xs ρ (ms ++ [iv_mw L xs ρ ms w]) I ∧ iv_gs L xs ρ (ms ++ [iv_mw L xs ρ ms w]) st sc ∧ iv_last (ms ++ [iv_mw L xs ρ ms w]) = iv_mw L xs ρ ms w := by
  obtain ⟨B1, B2, B3, B4, B5, B6, B7, B8⟩ := B
  unfold iv_wrt at h
  split at h
  · next e =>
    rw [Bool.and_eq_true] at e
    have e1 := e.1
    unfold iv_wfS at e1
    rw [Bool.and_eq_true, Bool.and_eq_true, Bool.and_eq_true] at e1
    obtain ⟨w1, w2, w3, w4⟩ := e1
    have hn : W.length < ms.length := by
      rw [B1, iv_ms_len]
      simp only [List.length_cons, List.length_nil]
      omega
    rw [sx_appK_eq] at h
    refine ⟨h, ⟨by rw [iv_ms_app, ← B1], B2, B3, B4, iv_wfl_ok hn w2 B5, iv_wfK_ok hn w4 B6, B7, by rw [iv_last_app]; exact hN⟩, fun q hq => ?_, iv_wfs_ok hn w3 hs, iv_last_app _⟩
    have h1 := List.all_eq_true.mp w1 q hq
    rw [Bool.and_eq_true] at h1
    rw [iv_wf_ok hn h1.1, iv_wf_ok hn h1.2]
    exact hI q hq
  · cases h
/-- a write, then on -/
theorem iv_wgo {w : List iv_E} {n : Nat} (hd : decode (sx_fi y).2.1 pc = .ok (ins, len)) (hr : mm_isR ins = false) (h0 : mm_pure (sx_fi y).2.2.1 ins len pc lc sc = none) {sc' : List Value} (hp : mm_mem (sx_fi y).1 38 (sx_fi y).2.2.2 (mm_zs vz) ins len (pc, lc, sc, iv_m L xs (iv_last ms), cb, sb) = some (n, lc, sc', iv_m L xs (iv_mw L xs ρ ms w), cb, sb)) (h : iv_wrt I W lv st K w (fun W => iv_go I W y full tl lv st K n) = some l) (hG : ∀ x ∈ l, iv_GX L xs vz Q ρ μ d x) (B : iv_B L xs ρ μ ms W y full tl lv K lc Kc) (hI : iv_hI L xs ρ ms I) (hs : iv_gs L xs ρ ms st sc') (hN : iv_N (iv_mw L xs ρ ms w)) : mm_T 38 (mm_zs vz) Q Kc (d - K.length) (sx_fi y) (pc, lc, sc, iv_m L xs (iv_last ms), cb, sb) := by
  obtain ⟨h1, h2, h3, h4, h5⟩ := iv_wrt_ok h B hI hs hN
  have := iv_go_ok (cb := cb) (sb := sb) h1 hG h2 h3 h4
  rw [h5] at this
  exact mm_T_step hd hr (iv_mst h0 hp) this
theorem iv_range_get {α : Type} {n k : Nat} {f : Nat → α} (h : k < n) : ((List.range n).map f)[k]? = some (f k) := by rw [List.getElem?_map, List.getElem?_range h]; rfl
set_option maxRecDepth 100000 in
theorem iv_pl15 : ∀ p, p < 213 → iv_pl p = 15 → 5 ≤ p ∧ p < 21 := by decide +kernel
set_option maxRecDepth 100000 in
theorem iv_pl16 : ∀ p, p < 213 → iv_pl p = 16 → p < 5 := by decide +kernel
set_option maxRecDepth 100000 in
theorem iv_pl17 : ∀ p, p < 213 → iv_pl p = 17 → 21 ≤ p ∧ p < 37 := by decide +kernel
set_option maxRecDepth 100000 in
theorem iv_pl1314 : ∀ p, p < 213 → iv_pl p ≠ 13 ∧ iv_pl p ≠ 14 := by decide +kernel
theorem iv_m0_str {p : Nat} (h1 : 5 ≤ p) (h2 : p < 21) : (mm_m0 L xs)[p]? = some (.inr (15, [.ref (p + 16), .int 0])) := by
  match p, h1, h2 with
  | 5, _, _ => rfl
  | 6, _, _ => rfl
  | 7, _, _ => rfl
  | 8, _, _ => rfl
  | 9, _, _ => rfl
  | 10, _, _ => rfl
  | 11, _, _ => rfl
  | 12, _, _ => rfl
  | 13, _, _ => rfl
  | 14, _, _ => rfl
  | 15, _, _ => rfl
  | 16, _, _ => rfl
  | 17, _, _ => rfl
  | 18, _, _ => rfl
  | 19, _, _ => rfl
  | 20, _, _ => rfl
  | p + 21, _, h => omega
/-- rows of others -/
def iv_sok (ty : FieldType) (c : Option mm_C) : Prop := ∃ vs : List Int32, c = some (.inl (ty, vs.map .int)) ∧ vs.length < 100000
theorem iv_m0_int (hL : L ≤ 3072) {p : Nat} (h : p < 5) : iv_sok .int (mm_m0 L xs)[p]? := by
  match p, h with
  | 0, _ => exact ⟨(List.range L).map xs, by show some (Sum.inl (FieldType.int, mm_scr L xs)) = _; unfold mm_scr; rw [List.map_map]; rfl, by simp; omega⟩
  | 1, _ => exact ⟨[-1, 0, 1, 1, 0, 1], rfl, by decide⟩
  | 2, _ => exact ⟨[1, 2, 3, 2, 1, 0], rfl, by decide⟩
  | 3, _ => exact ⟨[-1, 1, 0, 0], rfl, by decide⟩
  | 4, _ => exact ⟨[0, 0, -1, 1], rfl, by decide⟩
  | p + 5, h => omega
theorem iv_m0_byte {p : Nat} (h1 : 21 ≤ p) (h2 : p < 37) : iv_sok .byte (mm_m0 L xs)[p]? := by
  match p, h1, h2 with
  | 21, _, _ => exact ⟨mm_sb.getD 0 [], rfl, by decide⟩
  | 22, _, _ => exact ⟨mm_sb.getD 1 [], rfl, by decide⟩
  | 23, _, _ => exact ⟨mm_sb.getD 2 [], rfl, by decide⟩
  | 24, _, _ => exact ⟨mm_sb.getD 3 [], rfl, by decide⟩
  | 25, _, _ => exact ⟨mm_sb.getD 4 [], rfl, by decide⟩
  | 26, _, _ => exact ⟨mm_sb.getD 5 [], rfl, by decide⟩
  | 27, _, _ => exact ⟨mm_sb.getD 6 [], rfl, by decide⟩
  | 28, _, _ => exact ⟨mm_sb.getD 7 [], rfl, by decide⟩
  | 29, _, _ => exact ⟨mm_sb.getD 8 [], rfl, by decide⟩
  | 30, _, _ => exact ⟨mm_sb.getD 9 [], rfl, by decide⟩
  | 31, _, _ => exact ⟨mm_sb.getD 10 [], rfl, by decide⟩
  | 32, _, _ => exact ⟨mm_sb.getD 11 [], rfl, by decide⟩
  | 33, _, _ => exact ⟨mm_sb.getD 12 [], rfl, by decide⟩
  | 34, _, _ => exact ⟨mm_sb.getD 13 [], rfl, by decide⟩
  | 35, _, _ => exact ⟨mm_sb.getD 14 [], rfl, by decide⟩
  | 36, _, _ => exact ⟨mm_sb.getD 15 [], rfl, by decide⟩
  | p + 37, _, h => omega
/-- a row of others: what it holds -/
theorem iv_oth (hL : L ≤ 3072) {t : Nat} {p : Int} (hp : iv_ip t p) (ht : t = 16 ∨ t = 17) : ∃ vs : List Int32, (iv_m L xs μ)[p.toNat]? = some (.inl (if t = 16 then .int else .byte, vs.map .int)) ∧ iv_ln L xs p = (vs.length : Int) ∧ vs.length < 100000 ∧ ∀ k : Int, 0 ≤ k → k < (vs.length : Int) → ∃ x, vs[k.toNat]? = some x ∧ iv_sr L xs p k = x.toInt := by
  obtain ⟨h1, h2, h3⟩ := hp
  have hlt := iv_pl_lt h2 h3
  have key : ∃ vs : List Int32, (mm_m0 L xs)[p.toNat]? = some (.inl (if t = 16 then .int else .byte, vs.map .int)) ∧ vs.length < 100000 := by
    rcases ht with rfl | rfl
    · rw [if_pos rfl]
      exact iv_m0_int hL (iv_pl16 _ hlt h2)
    · rw [if_neg (by decide)]
      have := iv_pl17 _ hlt h2
      exact iv_m0_byte this.1 this.2
  obtain ⟨vs, k1, k2⟩ := key
  have h38 : p.toNat < 38 := by
    rcases ht with rfl | rfl
    · have := iv_pl16 _ hlt h2; omega
    · have := iv_pl17 _ hlt h2; omega
  refine ⟨vs, by rw [iv_m_oth h38]; exact k1, ?_, k2, fun k q1 q2 => ?_⟩
  · unfold iv_ln
    rw [k1]
    dsimp only
    rw [List.length_map]
  · have hk : k.toNat < vs.length := by omega
    refine ⟨vs[k.toNat], List.getElem?_eq_getElem hk, ?_⟩
    unfold iv_sr
    rw [k1]
    dsimp only
    rw [List.getElem?_map, List.getElem?_eq_getElem hk]
    rfl
/-- a field of an object -/
theorem iv_fld {t k : Nat} {p : Int} {f : Nat × Nat × Int} (hp : iv_ip t p) (ht : t ≤ 15) (hf : (iv_fds t)[k]? = some f) : ∃ fs, (iv_m L xs μ)[p.toNat]? = some (.inr (t, fs)) ∧ fs[k]? = some (match f.1 with
  | 2 => .ref (p + f.2.2).toNat
  | 3 => .int 0
  | _ => .int (Int32.ofInt (μ p k))) := by
  obtain ⟨h1, h2, h3⟩ := hp
  have hlt := iv_pl_lt h2 h3
  have hk := (List.getElem?_eq_some_iff.mp hf).1
  by_cases h15 : t = 15
  · subst h15
    have h4 := iv_pl15 _ hlt h2
    refine ⟨_, by rw [iv_m_oth (by omega)]; exact iv_m0_str h4.1 h4.2, ?_⟩
    match k, hf with
    | 0, hf =>
      cases hf
      show some (Value.ref (p.toNat + 16)) = some (.ref (p + 16).toNat)
      rw [show (p + 16).toNat = p.toNat + 16 by omega]
    | 1, hf => cases hf; rfl
    | k + 2, hf => cases hf
  · have ht12 : t ≤ 12 := by
      have := iv_pl1314 _ hlt
      rw [h2] at this
      omega
    obtain ⟨o1, o2⟩ := iv_own h2 (Or.inl ht12)
    refine ⟨_, by rw [iv_m_own o1 o2, iv_cl_obj h2 (iv_ars_obj (by omega))], ?_⟩
    rw [iv_range_get hk, List.getD_eq_getElem?_getD, hf]
    show some (iv_fv f μ p.toNat k) = _
    unfold iv_fv
    rw [Int.toNat_of_nonneg h1]
    obtain ⟨f1, f2⟩ := f
    dsimp only
    split
    · rfl
    · next e =>
      split
      · next e2 => exact absurd rfl e
      · exfalso
        have : ∀ t, t ≤ 12 → ∀ k, k < 26 → ∀ f2, (iv_fds t)[k]? ≠ some (3, f2) := by
          intro t ht k hk f2
          have h : ((List.range 13).all (fun t => (iv_fds t).all (fun f => !(Nat.beq f.1 3)))) = true := by decide +kernel
          intro hq
          have := List.all_eq_true.mp (List.all_eq_true.mp h t (List.mem_range.mpr (by omega))) _ (List.mem_of_getElem? hq)
          simp at this
        exact this t ht12 k (by have := iv_fds_len t; omega) f2 hf
      · rfl
/-- an element of a row of ours -/
theorem iv_elm {t k : Nat} {p : Int} {a : Nat × Nat × Nat × Int × Int} (hp : iv_ip t p) (ha : iv_ars t = some a) (hk : k < a.2.1) : (iv_m L xs μ)[p.toNat]? = some (.inl (iv_ft a, (List.range a.2.1).map (fun k => iv_av a μ p.toNat k))) ∧ ((List.range a.2.1).map (fun k => iv_av a μ p.toNat k))[k]? = some (iv_av a μ p.toNat k) ∧ 38 ≤ p.toNat ∧ (100 ≤ t ∧ t ≠ 999) := by
  obtain ⟨h1, h2, h3⟩ := hp
  have ht : 100 ≤ t := by
    refine Nat.le_of_not_lt (fun q => ?_)
    rw [iv_ars_obj (by omega)] at ha
    cases ha
  obtain ⟨o1, o2⟩ := iv_own h2 (Or.inr ⟨ht, h3⟩)
  exact ⟨by rw [iv_m_own o1 o2, iv_cl_arr h2 ha], iv_range_get hk, o1, ht, h3⟩
theorem iv_ars_lt {t : Nat} {a : Nat × Nat × Nat × Int × Int} (ha : iv_ars t = some a) : a.2.1 < 100000 ∧ (iv_ft a = .boolean ↔ a.1 = 4) := by
  unfold iv_ars at ha
  split at ha <;> first | cases ha | skip
  all_goals exact ⟨by decide, by decide⟩
theorem iv_jx {j : Int} {n : Nat} (hj : iv_i32 j) (h0 : 0 ≤ j) (h1 : j < (n : Int)) : ¬ (Int32.ofInt j < 0 ∨ n ≤ (Int32.ofInt j).toNatClampNeg) ∧ (Int32.ofInt j).toNatClampNeg = j.toNat := by
  have e : (Int32.ofInt j).toNatClampNeg = (Int32.ofInt j).toInt.toNat := rfl
  rw [iv_of32 hj] at e
  refine ⟨?_, e⟩
  rw [e, Int32.lt_iff_toInt_lt, iv_of32 hj]
  have : (0 : Int32).toInt = 0 := by decide
  omega
end IVO
