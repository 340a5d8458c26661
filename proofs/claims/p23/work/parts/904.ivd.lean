/-! ===== methods by their values: the memory ===== -/
theorem iv_pls_len : iv_pls.length = 213 := by decide +kernel
theorem iv_pl_lt {p : Nat} {t : Nat} (h : iv_pl p = t) (ht : t ≠ 999) : p < 213 := by
  refine Nat.lt_of_not_le (fun hp => ht ?_)
  rw [← h]
  unfold iv_pl
  rw [List.getD_eq_getElem?_getD, List.getElem?_eq_none (by rw [iv_pls_len]; exact hp)]
  rfl
set_option maxRecDepth 100000 in
theorem iv_pl38 : ∀ p, p < 213 → (iv_pl p ≤ 12 ∨ (100 ≤ iv_pl p ∧ iv_pl p ≠ 999)) → 38 ≤ p := by decide +kernel
theorem iv_own {p t : Nat} (h : iv_pl p = t) (ht : t ≤ 12 ∨ (100 ≤ t ∧ t ≠ 999)) : 38 ≤ p ∧ p < 213 := by
  have h2 := iv_pl_lt h (by omega)
  exact ⟨iv_pl38 p h2 (by rw [h]; exact ht), h2⟩
set_option maxRecDepth 100000 in
/-- what refers, refers to what it says -/
theorem iv_fd_ok : ∀ p, p < 213 → (List.range 26).all (fun k => match (iv_fds (iv_pl p))[k]? with
  | some (2, u, off) => decide (0 ≤ (p : Int) + off ∧ iv_pl ((p : Int) + off).toNat = u ∧ u ≠ 999)
  | _ => true) = true := by decide +kernel
set_option maxRecDepth 100000 in
theorem iv_ar_ok : ∀ p, p < 213 → (match iv_ars (iv_pl p) with
  | some (5, n, u, off, stride) => (List.range n).all (fun k => decide (0 ≤ (p : Int) + off + stride * (k : Int) ∧ iv_pl ((p : Int) + off + stride * (k : Int)).toNat = u ∧ u ≠ 999))
  | _ => true) = true := by decide +kernel
theorem iv_fds_len (t : Nat) : (iv_fds t).length ≤ 26 := by
  unfold iv_fds
  split <;> decide
theorem iv_fd_ip {t k u : Nat} {off p : Int} (hp : iv_ip t p) (h : (iv_fds t)[k]? = some (2, u, off)) : iv_ip u (p + off) := by
  obtain ⟨h1, h2, h3⟩ := hp
  have h4 := iv_fd_ok p.toNat (iv_pl_lt h2 h3)
  have hk : k < 26 := by
    have := (List.getElem?_eq_some_iff.mp h).1
    have := iv_fds_len t
    omega
  have h5 := List.all_eq_true.mp h4 k (List.mem_range.mpr hk)
  rw [h2, h] at h5
  have h5 := of_decide_eq_true h5
  rw [Int.toNat_of_nonneg h1] at h5
  exact h5
theorem iv_ar_ip {t n u : Nat} {off stride p j : Int} (hp : iv_ip t p) (h : iv_ars t = some (5, n, u, off, stride)) (h0 : 0 ≤ j) (hj : j < (n : Int)) : iv_ip u (p + off + stride * j) := by
  obtain ⟨h1, h2, h3⟩ := hp
  have h4 := iv_ar_ok p.toNat (iv_pl_lt h2 h3)
  rw [h2, h] at h4
  have h5 := List.all_eq_true.mp h4 j.toNat (List.mem_range.mpr (by omega))
  have h5 := of_decide_eq_true h5
  rw [Int.toNat_of_nonneg h1, Int.toNat_of_nonneg h0] at h5
  exact h5
theorem iv_m0_len (L : Nat) (xs : Nat → Int32) : (mm_m0 L xs).length = 38 := rfl
section IVM
variable {L : Nat} {xs : Nat → Int32} {μ μ' : iv_M}
theorem iv_m_len : (iv_m L xs μ).length = 213 := by
  unfold iv_m
  rw [List.length_append, iv_m0_len, List.length_map, List.length_range]
theorem iv_m_own {p : Nat} (h1 : 38 ≤ p) (h2 : p < 213) : (iv_m L xs μ)[p]? = some (iv_cl μ p) := by
  unfold iv_m
  rw [List.getElem?_append_right (by rw [iv_m0_len]; exact h1), iv_m0_len, List.getElem?_map, List.getElem?_range (by omega)]
  show some (iv_cl μ (p - 38 + 38)) = _
  rw [Nat.sub_add_cancel h1]
theorem iv_m_oth {p : Nat} (h : p < 38) : (iv_m L xs μ)[p]? = (mm_m0 L xs)[p]? := by
  unfold iv_m
  rw [List.getElem?_append_left (by rw [iv_m0_len]; exact h)]
theorem iv_cl_arr {p t : Nat} {a : Nat × Nat × Nat × Int × Int} (hp : iv_pl p = t) (ha : iv_ars t = some a) : iv_cl μ p = .inl (iv_ft a, (List.range a.2.1).map (fun k => iv_av a μ p k)) := by
  unfold iv_cl
  rw [hp, ha]
theorem iv_cl_obj {p t : Nat} (hp : iv_pl p = t) (ha : iv_ars t = none) : iv_cl μ p = .inr (t, (List.range (iv_fds t).length).map (fun k => iv_fv ((iv_fds t).getD k (0, 0, 0)) μ p k)) := by
  unfold iv_cl
  rw [hp, ha]
theorem iv_cl_congr {p : Nat} (h : ∀ k : Nat, μ p k = μ' p k) : iv_cl μ p = iv_cl μ' p := by
  unfold iv_cl
  split
  · next a e =>
    congr 2
    apply List.map_congr_left
    intro k _
    unfold iv_av
    rw [h k]
  · congr 2
    apply List.map_congr_left
    intro k _
    unfold iv_fv
    rw [h k]
theorem iv_m_set {p : Nat} {c : mm_C} (h1 : 38 ≤ p) (h2 : p < 213) (hc : iv_cl μ' p = c) (ho : ∀ q : Nat, q ≠ p → ∀ k : Nat, μ q k = μ' q k) : (iv_m L xs μ).set p c = iv_m L xs μ' := by
  apply List.ext_getElem?
  intro q
  by_cases hq : q = p
  · subst hq
    rw [iv_m_own h1 h2, List.getElem?_set]
    simp only [if_true]
    rw [if_pos (by rw [iv_m_len]; exact h2), hc]
  · rw [List.getElem?_set_ne (fun e => hq e.symm)]
    by_cases q1 : q < 38
    · rw [iv_m_oth q1, iv_m_oth q1]
    · by_cases q2 : q < 213
      · rw [iv_m_own (by omega) q2, iv_m_own (by omega) q2, iv_cl_congr (ho q hq)]
      · rw [List.getElem?_eq_none (by rw [iv_m_len]; omega), List.getElem?_eq_none (by rw [iv_m_len]; omega)]
theorem iv_range_set {α : Type} {n j : Nat} {f : Nat → α} {v : α} : ((List.range n).map f).set j v = (List.range n).map (fun k => if k = j then v else f k) := by
  apply List.ext_getElem?
  intro i
  by_cases hi : i < n
  · by_cases hij : i = j
    · subst hij
      rw [List.getElem?_set]
      simp [hi]
    · rw [List.getElem?_set_ne (fun e => hij e.symm), List.getElem?_map, List.getElem?_map, List.getElem?_range hi]
      simp [hij]
  · rw [List.getElem?_eq_none (by simpa using Nat.le_of_not_lt hi), List.getElem?_eq_none (by simpa using Nat.le_of_not_lt hi)]
theorem iv_upd_same (μ : iv_M) (p k v : Int) : iv_upd μ p k v p k = v := by unfold iv_upd; rw [if_pos ⟨rfl, rfl⟩]
theorem iv_upd_ne {p k q j : Int} (μ : iv_M) (v : Int) (h : q ≠ p ∨ j ≠ k) : iv_upd μ p k v q j = μ q j := by
  unfold iv_upd
  rw [if_neg]
  rintro ⟨h1, h2⟩
  rcases h with h | h
  · exact h h1
  · exact h h2
/-- a number of a row is another now -/
theorem iv_set_arr {p : Nat} {j : Int} {t : Nat} {a : Nat × Nat × Nat × Int × Int} {v : Int} {x : Value} (hp : iv_pl p = t) (ht : 100 ≤ t ∧ t ≠ 999) (ha : iv_ars t = some a) (h0 : 0 ≤ j) (h5 : a.1 ≠ 5) (hx : x = if a.1 = 1 then .long (Int64.ofInt v) else .int (Int32.ofInt v)) : (iv_m L xs μ).set p (.inl (iv_ft a, ((List.range a.2.1).map (fun k => iv_av a μ p k)).set j.toNat x)) = iv_m L xs (iv_upd μ p j v) := by
  obtain ⟨o1, o2⟩ := iv_own hp (Or.inr ht)
  refine iv_m_set o1 o2 ?_ (fun q hq k => (iv_upd_ne μ v (Or.inl (by omega))).symm)
  rw [iv_cl_arr hp ha, iv_range_set]
  congr 2
  apply List.map_congr_left
  intro k _
  by_cases hk : k = j.toNat
  · rw [if_pos hk]
    subst hk
    unfold iv_av
    rw [Int.toNat_of_nonneg h0, iv_upd_same, hx]
    split
    · next e => rw [if_pos e]
    · next e => exact absurd e h5
    · next e1 e2 => rw [if_neg e1]
  · rw [if_neg hk]
    unfold iv_av
    rw [iv_upd_ne μ v (Or.inr (by omega))]
theorem iv_set_obj {p k t : Nat} {f : Nat × Nat × Int} {v : Int} (hp : iv_pl p = t) (ht : t ≤ 12) (hf : (iv_fds t)[k]? = some f) (h2 : f.1 ≠ 2) (ha : iv_ars t = none) : (iv_m L xs μ).set p (.inr (t, ((List.range (iv_fds t).length).map (fun k => iv_fv ((iv_fds t).getD k (0, 0, 0)) μ p k)).set k (.int (Int32.ofInt v)))) = iv_m L xs (iv_upd μ p k v) := by
  obtain ⟨o1, o2⟩ := iv_own hp (Or.inl ht)
  refine iv_m_set o1 o2 ?_ (fun q hq k => (iv_upd_ne μ v (Or.inl (by omega))).symm)
  rw [iv_cl_obj hp ha, iv_range_set]
  congr 2
  apply List.map_congr_left
  intro i _
  by_cases hk : i = k
  · rw [if_pos hk]
    subst hk
    unfold iv_fv
    rw [List.getD_eq_getElem?_getD, hf, iv_upd_same]
    split
    · next e => exact absurd e h2
    · rfl
  · rw [if_neg hk]
    unfold iv_fv
    rw [iv_upd_ne μ v (Or.inr (by omega))]
theorem iv_N_upd {p : Nat} {j v : Int} {t : Nat} (hN : iv_N μ) (hp : iv_pl p = t) (h0 : 0 ≤ j) (hv : iv_rg (iv_sk t j.toNat) v) : iv_N (iv_upd μ p j v) := by
  intro q k
  by_cases h : q = p ∧ (k : Int) = j
  · obtain ⟨rfl, h⟩ := h
    subst h
    rw [iv_upd_same, hp]
    exact hv
  · rw [iv_upd_ne μ v (by omega)]
    exact hN q k
theorem iv_ars_sk {t k : Nat} {a : Nat × Nat × Nat × Int × Int} (h : iv_ars t = some a) : iv_sk t k = a.1 := by
  unfold iv_sk
  rw [h]
theorem iv_fds_sk {t k : Nat} {f : Nat × Nat × Int} (ha : iv_ars t = none) (h : (iv_fds t)[k]? = some f) : iv_sk t k = if f.1 = 1 then 4 else 0 := by
  unfold iv_sk
  rw [ha, h]
  dsimp only
  obtain ⟨f1, f2⟩ := f
  split
  · next e => cases e; rfl
  · next e =>
    rw [if_neg]
    intro h1
    exact e _ (by rw [show f1 = 1 from h1])
theorem iv_rg0 {s : Nat} {x : Int} (h : iv_rg s x) (hs : s ≠ 1) : iv_i32 x := by
  unfold iv_rg at h
  split at h
  · exact absurd rfl hs
  · unfold iv_i32; omega
  · exact h
theorem iv_ars_obj {t : Nat} (h : t ≤ 99) : iv_ars t = none := by
  unfold iv_ars
  split <;> first | omega | rfl
end IVM
