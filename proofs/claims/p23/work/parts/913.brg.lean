/-! ===== a bridge: contracts by types and ranges (60) as contracts by values: what is not written stays ===== -/
def br_m (μ : iv_M) (m : List mm_C) : iv_M := fun p k => if 38 ≤ p ∧ 0 ≤ k then (match se_get m p.toNat k.toNat with
  | some (.int x) => x.toInt
  | some (.long x) => x.toInt
  | _ => μ p k) else μ p k
/-- written slots hold no references, and lie behind the first places -/
def br_W (W : se_W) : Bool := W.all (fun u => Nat.ble 37 u.1 && (List.range (u.2.2 - u.2.1)).all (fun j => Nat.ble (se_seg (se_tt u.1).2.2.2 (u.2.1 + j)).1 1))
def br_in (W : se_W) (p k : Int) : Prop := 38 ≤ p ∧ 0 ≤ k ∧ ∃ t, st_ty p.toNat = some t ∧ ∃ u ∈ W, u.1 = t ∧ u.2.1 ≤ k.toNat ∧ k.toNat < u.2.2
/-- both tables of types say the same of a place -/
def br_kd (f : Nat) (κ : se_K) : Bool := match f with
  | 1 => Nat.beq κ.1 1
  | 2 => Nat.ble 2 κ.1
  | 3 => Nat.beq κ.1 0 && (decide (0 ≤ κ.2.1) && decide (κ.2.2 ≤ 1))
  | _ => Nat.beq κ.1 0
def br_pc (q : Nat) : Bool := match st_ty q with
  | some t => match (se_tt t).1, iv_ars (iv_pl q) with
    | none, some a => decide ((se_tt t).2.1 = iv_ft a) && (Nat.beq (se_tt t).2.2.1 a.2.1 && (List.range a.2.1).all (fun k => br_kd (match a.1 with
      | 1 => 1
      | 5 => 2
      | 4 => 3
      | _ => 0) (se_seg (se_tt t).2.2.2 k)))
    | some ci, none => Nat.beq ci (iv_pl q) && (Nat.beq (se_tt t).2.2.1 (iv_fds (iv_pl q)).length && (List.range (iv_fds (iv_pl q)).length).all (fun k => br_kd (match ((iv_fds (iv_pl q)).getD k (0, 0, 0)).1 with
      | 2 => 2
      | 1 => 3
      | _ => 0) (se_seg (se_tt t).2.2.2 k)))
    | _, _ => false
  | none => false
set_option maxRecDepth 100000 in
theorem br_pcs : (List.range 175).all (fun i => br_pc (i + 38)) = true := by decide +kernel
set_option maxRecDepth 100000 in
theorem br_low : (List.range 38).all (fun q => match st_ty q with
  | some t => Nat.blt t 37
  | none => true) = true := by decide +kernel
theorem br_cell {ty : Nat → Option Nat} {p t : Nat} {m m' : List mm_C} (a : se_tc ty (se_tt t) m[p]?) (b : se_tc ty (se_tt t) m'[p]?) (g : ∀ i, se_get m' p i = se_get m p i) : m'[p]? = m[p]? := by
  unfold se_tc at a b
  unfold se_get at g
  split at a
  · next ci eci =>
    rw [eci] at b
    obtain ⟨fs, e, _⟩ := a
    obtain ⟨fs', e', _⟩ := b
    have : fs' = fs := by
      apply List.ext_getElem?
      intro i
      have := g i
      rw [e, e'] at this
      exact this
    rw [e, e', this]
  · next eci =>
    rw [eci] at b
    obtain ⟨fs, e, _⟩ := a
    obtain ⟨fs', e', _⟩ := b
    have : fs' = fs := by
      apply List.ext_getElem?
      intro i
      have := g i
      rw [e, e'] at this
      exact this
    rw [e, e', this]
theorem br_int {k : Nat} {μ : iv_M} {m : List mm_C} {p : Nat} (hp : 38 ≤ p) {x : Int32} (h : se_get m p k = some (.int x)) : br_m μ m p k = x.toInt := by
  unfold br_m
  rw [if_pos (by omega), Int.toNat_natCast, Int.toNat_natCast, h]
theorem br_long {k : Nat} {μ : iv_M} {m : List mm_C} {p : Nat} (hp : 38 ≤ p) {x : Int64} (h : se_get m p k = some (.long x)) : br_m μ m p k = x.toInt := by
  unfold br_m
  rw [if_pos (by omega), Int.toNat_natCast, Int.toNat_natCast, h]
theorem br_oth {k : Nat} {μ : iv_M} {m : List mm_C} {p : Nat} (h : ∀ x, se_get m p k ≠ some (.int x)) (h2 : ∀ x, se_get m p k ≠ some (.long x)) : br_m μ m p k = μ p k := by
  unfold br_m
  split
  · rw [Int.toNat_natCast, Int.toNat_natCast]
    split
    · next x e => exact absurd e (h x)
    · next x e => exact absurd e (h2 x)
    · rfl
  · rfl
theorem br_get_arr {m : List mm_C} {p k : Nat} {el : FieldType} {xs : List Value} (h : m[p]? = some (.inl (el, xs))) : se_get m p k = xs[k]? := by
  unfold se_get
  rw [h]
theorem br_get_obj {m : List mm_C} {p k ci : Nat} {xs : List Value} (h : m[p]? = some (.inr (ci, xs))) : se_get m p k = xs[k]? := by
  unfold se_get
  rw [h]
theorem br_range_get {α : Type} {n k : Nat} {f : Nat → α} : ((List.range n).map f)[k]? = if k < n then some (f k) else none := by
  by_cases h : k < n
  · rw [if_pos h]; exact iv_range_get h
  · rw [if_neg h, List.getElem?_eq_none (by simpa using Nat.le_of_not_lt h)]
theorem br_kd0 {f : Nat} {κ : se_K} (h : br_kd f κ = true) (h1 : f ≠ 1) (h2 : f ≠ 2) : κ.1 = 0 := by
  unfold br_kd at h
  split at h
  · exact absurd rfl h1
  · exact absurd rfl h2
  · rw [Bool.and_eq_true] at h; exact Nat.eq_of_beq_eq_true h.1
  · exact Nat.eq_of_beq_eq_true h
section BRG
variable {L : Nat} {xs : Nat → Int32} {vz : Value} {μ : iv_M} {m : List mm_C} {W : se_W}
/-- a slot that refers is as it was -/
theorem br_ref (hW : br_W W = true) (hf : se_fq st_ty W (iv_m L xs μ) m) {p t k : Nat} (ht : st_ty p = some t) (hk : 2 ≤ (se_seg (se_tt t).2.2.2 k).1) : se_get m p k = se_get (iv_m L xs μ) p k := by
  refine hf.2 p t k ht (fun u hu e => ?_)
  have h1 := List.all_eq_true.mp hW u hu
  rw [Bool.and_eq_true] at h1
  by_cases a : k < u.2.1
  · exact Or.inl a
  · by_cases b : u.2.2 ≤ k
    · exact Or.inr b
    · have h2 := Nat.le_of_ble_eq_true (List.all_eq_true.mp h1.2 (k - u.2.1) (List.mem_range.mpr (by omega)))
      rw [show u.2.1 + (k - u.2.1) = k by omega, e] at h2
      omega
theorem br_eq (hW : br_W W = true) (h0 : se_tm st_ty se_tt (iv_m L xs μ)) (h1 : se_tm st_ty se_tt m) (hf : se_fq st_ty W (iv_m L xs μ) m) : m = iv_m L xs (br_m μ m) := by
  apply List.ext_getElem?
  intro q
  by_cases q1 : q < 38
  · rw [iv_m_oth q1, ← iv_m_oth (μ := μ) q1]
    cases hq : st_ty q with
    | none => exact hf.1 q hq
    | some t =>
      have ht : t < 37 := by
        have := List.all_eq_true.mp br_low q (List.mem_range.mpr q1)
        rw [hq] at this
        exact Nat.blt_eq.mp this
      refine br_cell (h0 q t hq) (h1 q t hq) (fun i => hf.2 q t i hq (fun u hu e => ?_))
      have h2 := List.all_eq_true.mp hW u hu
      rw [Bool.and_eq_true] at h2
      have := Nat.le_of_ble_eq_true h2.1
      omega
  · by_cases q2 : q < 213
    · rw [iv_m_own (by omega) q2]
      have hp := List.all_eq_true.mp br_pcs (q - 38) (List.mem_range.mpr (by omega))
      rw [show q - 38 + 38 = q by omega] at hp
      unfold br_pc at hp
      split at hp
      · next t ht =>
        have a1 := h1 q t ht
        have a0 := h0 q t ht
        unfold se_tc at a1
        split at hp
        · next a e1 e2 =>
          rw [e1] at a1
          obtain ⟨xs', b1, b2, b3⟩ := a1
          rw [Bool.and_eq_true, Bool.and_eq_true, decide_eq_true_eq] at hp
          obtain ⟨p1, p2, p3⟩ := hp
          have p2 := Nat.eq_of_beq_eq_true p2
          rw [iv_cl_arr rfl e2, b1, p1]
          congr 3
          apply List.ext_getElem?
          intro k
          rw [br_range_get]
          by_cases hk : k < a.2.1
          · rw [if_pos hk]
            obtain ⟨x, c1, c2⟩ := b3 k (by omega)
            have c3 := List.all_eq_true.mp p3 k (List.mem_range.mpr hk)
            have c4 : se_get m q k = some x := by rw [br_get_arr b1, c1]
            rw [c1]
            unfold iv_av
            split
            · next ea =>
              rw [ea] at c3
              have c5 : (se_seg (se_tt t).2.2.2 k).1 = 1 := Nat.eq_of_beq_eq_true c3
              unfold se_k at c2
              rw [c5] at c2
              obtain ⟨n, rfl⟩ := c2
              rw [br_long (by omega) c4, Int64.ofInt_toInt]
            · next ea =>
              rw [ea] at c3
              have c5 : 2 ≤ (se_seg (se_tt t).2.2.2 k).1 := Nat.le_of_ble_eq_true c3
              have c6 := br_ref hW hf ht c5
              rw [c4, br_get_arr (by rw [iv_m_own (by omega) q2]; exact congrArg some (iv_cl_arr rfl e2)), br_range_get, if_pos hk] at c6
              rw [c6]
              unfold iv_av
              rw [ea]
              rfl
            · next ea1 ea5 =>
              have c5 : (se_seg (se_tt t).2.2.2 k).1 = 0 := by
                refine br_kd0 c3 ?_ ?_
                · split
                  · next e => exact absurd e ea1
                  · decide
                  · decide
                  · decide
                · split
                  · decide
                  · next e => exact absurd e ea5
                  · decide
                  · decide
              unfold se_k at c2
              rw [c5] at c2
              obtain ⟨n, rfl, -, -⟩ := c2
              rw [br_int (by omega) c4, Int32.ofInt_toInt]
          · rw [if_neg hk, List.getElem?_eq_none (by omega)]
        · next ci e1 e2 =>
          rw [e1] at a1
          obtain ⟨xs', b1, b2, b3⟩ := a1
          rw [Bool.and_eq_true, Bool.and_eq_true] at hp
          obtain ⟨p1, p2, p3⟩ := hp
          have p1 := Nat.eq_of_beq_eq_true p1
          have p2 := Nat.eq_of_beq_eq_true p2
          rw [iv_cl_obj rfl e2, b1, p1]
          congr 3
          apply List.ext_getElem?
          intro k
          rw [br_range_get]
          by_cases hk : k < (iv_fds (iv_pl q)).length
          · rw [if_pos hk]
            obtain ⟨x, c1, c2⟩ := b3 k (by omega)
            have c3 := List.all_eq_true.mp p3 k (List.mem_range.mpr hk)
            have c4 : se_get m q k = some x := by rw [br_get_obj b1, c1]
            rw [c1]
            unfold iv_fv
            split
            · next ea =>
              rw [ea] at c3
              have c5 : 2 ≤ (se_seg (se_tt t).2.2.2 k).1 := Nat.le_of_ble_eq_true c3
              have c6 := br_ref hW hf ht c5
              rw [c4, br_get_obj (by rw [iv_m_own (by omega) q2]; exact congrArg some (iv_cl_obj rfl e2)), br_range_get, if_pos hk] at c6
              rw [c6]
              unfold iv_fv
              rw [ea]
              rfl
            · next ea2 =>
              have c5 : (se_seg (se_tt t).2.2.2 k).1 = 0 := by
                refine br_kd0 c3 ?_ ?_
                · split
                  · decide
                  · decide
                  · decide
                · split
                  · next e => exact absurd e ea2
                  · decide
                  · decide
              unfold se_k at c2
              rw [c5] at c2
              obtain ⟨n, rfl, -, -⟩ := c2
              rw [br_int (by omega) c4, Int32.ofInt_toInt]
          · rw [if_neg hk, List.getElem?_eq_none (by omega)]
        · cases hp
      · cases hp
    · rw [List.getElem?_eq_none (l := iv_m L xs (br_m μ m)) (by rw [iv_m_len]; omega)]
      cases hq : st_ty q with
      | none =>
        rw [hf.1 q hq]
        exact List.getElem?_eq_none (by rw [iv_m_len]; omega)
      | some t => exact absurd (st_tyl hq) q2
end BRG
theorem br_low_m {μ : iv_M} {m : List mm_C} {p k : Int} (h : ¬ (38 ≤ p ∧ 0 ≤ k)) : br_m μ m p k = μ p k := by
  unfold br_m
  rw [if_neg h]
section BRH
variable {L : Nat} {xs : Nat → Int32} {vz : Value} {μ : iv_M} {m : List mm_C} {W : se_W}
theorem br_get0 {p k : Nat} (h1 : 38 ≤ p) (h2 : p < 213) (hN : iv_N μ) : (∀ x, se_get (iv_m L xs μ) p k = some (.int x) → x.toInt = μ p k) ∧ (∀ x, se_get (iv_m L xs μ) p k = some (.long x) → x.toInt = μ p k) := by
  have hn := hN p k
  cases ha : iv_ars (iv_pl p) with
  | some a =>
    rw [br_get_arr (by rw [iv_m_own h1 h2]; exact congrArg some (iv_cl_arr rfl ha)), br_range_get]
    rw [iv_ars_sk ha] at hn
    split
    · unfold iv_av
      split
      · next e =>
        rw [e] at hn
        exact ⟨fun x q => (by cases q), fun x q => by cases q; exact iv_of64 hn⟩
      · exact ⟨fun x q => (by cases q), fun x q => by cases q⟩
      · next e1 e2 => exact ⟨fun x q => by cases q; exact iv_of32 (iv_rg0 hn e1), fun x q => by cases q⟩
    · exact ⟨fun x q => (by cases q), fun x q => by cases q⟩
  | none =>
    rw [br_get_obj (by rw [iv_m_own h1 h2]; exact congrArg some (iv_cl_obj rfl ha)), br_range_get]
    split
    · next hk =>
      have hf : (iv_fds (iv_pl p))[k]? = some ((iv_fds (iv_pl p)).getD k (0, 0, 0)) := by
        rw [List.getD_eq_getElem?_getD, List.getElem?_eq_getElem hk]
        rfl
      rw [iv_fds_sk ha hf] at hn
      unfold iv_fv
      split
      · exact ⟨fun x q => (by cases q), fun x q => by cases q⟩
      · refine ⟨fun x q => ?_, fun x q => by cases q⟩
        cases q
        refine iv_of32 (iv_rg0 hn ?_)
        split <;> decide
    · exact ⟨fun x q => (by cases q), fun x q => by cases q⟩
theorem br_fr (h0 : se_tm st_ty se_tt (iv_m L xs μ)) (hf : se_fq st_ty W (iv_m L xs μ) m) (hN : iv_N μ) {p k : Int} (h : ¬ br_in W p k) : br_m μ m p k = μ p k := by
  by_cases q0 : 38 ≤ p ∧ 0 ≤ k
  · obtain ⟨p, rfl⟩ := Int.eq_ofNat_of_zero_le (show 0 ≤ p by omega)
    obtain ⟨k, rfl⟩ := Int.eq_ofNat_of_zero_le q0.2
    have hp : 38 ≤ p := by have := q0.1; omega
    have e : se_get m p k = se_get (iv_m L xs μ) p k := by
      cases ht : st_ty p with
      | none =>
        have := hf.1 p ht
        unfold se_get
        rw [this]
      | some t =>
        refine hf.2 p t k ht (fun u hu e => ?_)
        by_cases a : k < u.2.1
        · exact Or.inl a
        · by_cases b : u.2.2 ≤ k
          · exact Or.inr b
          · exact absurd ⟨q0.1, q0.2, t, by rw [Int.toNat_natCast]; exact ht, u, hu, e, by rw [Int.toNat_natCast]; omega, by rw [Int.toNat_natCast]; omega⟩ h
    by_cases h213 : p < 213
    · obtain ⟨g1, g2⟩ := br_get0 (L := L) (xs := xs) (k := k) hp h213 hN
      unfold br_m
      rw [if_pos q0, Int.toNat_natCast, Int.toNat_natCast]
      split
      · next x ex => exact g1 x (by rw [← e]; exact ex)
      · next x ex => exact g2 x (by rw [← e]; exact ex)
      · rfl
    · have : se_get m p k = none := by
        rw [e]
        unfold se_get
        rw [List.getElem?_eq_none (by rw [iv_m_len]; omega)]
      exact br_oth (fun x => by rw [this]; intro q; cases q) (fun x => by rw [this]; intro q; cases q)
  · exact br_low_m q0
theorem br_N (h1 : se_tm st_ty se_tt m) (hl : m.length = 213) (hN : iv_N μ) : iv_N (br_m μ m) := by
  intro p k
  by_cases q1 : 38 ≤ p
  · by_cases q2 : p < 213
    · have hp := List.all_eq_true.mp br_pcs (p - 38) (List.mem_range.mpr (by omega))
      rw [show p - 38 + 38 = p by omega] at hp
      unfold br_pc at hp
      split at hp
      · next t ht =>
        have a1 := h1 p t ht
        unfold se_tc at a1
        split at hp
        · next a e1 e2 =>
          rw [e1] at a1
          obtain ⟨xs', b1, b2, b3⟩ := a1
          rw [Bool.and_eq_true, Bool.and_eq_true, decide_eq_true_eq] at hp
          obtain ⟨-, p2, p3⟩ := hp
          have p2 := Nat.eq_of_beq_eq_true p2
          by_cases hk : k < a.2.1
          · obtain ⟨x, c1, c2⟩ := b3 k (by omega)
            have c3 := List.all_eq_true.mp p3 k (List.mem_range.mpr hk)
            have c4 : se_get m p k = some x := by rw [br_get_arr b1, c1]
            rw [iv_ars_sk e2]
            by_cases ea1 : a.1 = 1
            · rw [ea1] at c3 ⊢
              have c5 : (se_seg (se_tt t).2.2.2 k).1 = 1 := Nat.eq_of_beq_eq_true c3
              unfold se_k at c2
              rw [c5] at c2
              obtain ⟨n, rfl⟩ := c2
              rw [br_long q1 c4]
              exact iv_t64 n
            · by_cases ea5 : a.1 = 5
              · rw [ea5] at c3
                have c5 : 2 ≤ (se_seg (se_tt t).2.2.2 k).1 := Nat.le_of_ble_eq_true c3
                have := hN p k
                rw [iv_ars_sk e2] at this
                unfold se_k at c2
                split at c2
                · next e => rw [e] at c5; omega
                · next e => rw [e] at c5; omega
                · obtain ⟨q, rfl, -⟩ := c2
                  rw [br_oth (fun x => by rw [c4]; intro q; cases q) (fun x => by rw [c4]; intro q; cases q)]
                  exact this
              · by_cases ea4 : a.1 = 4
                · rw [ea4] at c3 ⊢
                  have c3 : (Nat.beq (se_seg (se_tt t).2.2.2 k).1 0 && (decide (0 ≤ (se_seg (se_tt t).2.2.2 k).2.1) && decide ((se_seg (se_tt t).2.2.2 k).2.2 ≤ 1))) = true := c3
                  rw [Bool.and_eq_true, Bool.and_eq_true, decide_eq_true_eq, decide_eq_true_eq] at c3
                  have c5 := Nat.eq_of_beq_eq_true c3.1
                  unfold se_k at c2
                  rw [c5] at c2
                  obtain ⟨n, rfl, g1, g2⟩ := c2
                  rw [br_int q1 c4]
                  show 0 ≤ _ ∧ _ ≤ _
                  omega
                · have c5 : (se_seg (se_tt t).2.2.2 k).1 = 0 := by
                    refine br_kd0 c3 ?_ ?_
                    · split
                      · next e => exact absurd e ea1
                      · decide
                      · decide
                      · decide
                    · split
                      · decide
                      · next e => exact absurd e ea5
                      · decide
                      · decide
                  unfold se_k at c2
                  rw [c5] at c2
                  obtain ⟨n, rfl, -, -⟩ := c2
                  rw [br_int q1 c4]
                  unfold iv_rg
                  split
                  · next e => exact absurd e ea1
                  · next e => exact absurd e ea4
                  · exact iv_t32 n
          · have c4 : se_get m p k = none := by rw [br_get_arr b1, List.getElem?_eq_none (by omega)]
            rw [br_oth (fun x => by rw [c4]; intro q; cases q) (fun x => by rw [c4]; intro q; cases q)]
            exact hN p k
        · next ci e1 e2 =>
          rw [e1] at a1
          obtain ⟨xs', b1, b2, b3⟩ := a1
          rw [Bool.and_eq_true, Bool.and_eq_true] at hp
          obtain ⟨-, p2, p3⟩ := hp
          have p2 := Nat.eq_of_beq_eq_true p2
          by_cases hk : k < (iv_fds (iv_pl p)).length
          · obtain ⟨x, c1, c2⟩ := b3 k (by omega)
            have c3 := List.all_eq_true.mp p3 k (List.mem_range.mpr hk)
            have c4 : se_get m p k = some x := by rw [br_get_obj b1, c1]
            have hfd : (iv_fds (iv_pl p))[k]? = some ((iv_fds (iv_pl p)).getD k (0, 0, 0)) := by
              rw [List.getD_eq_getElem?_getD, List.getElem?_eq_getElem hk]
              rfl
            have hn := hN p k
            rw [iv_fds_sk e2 hfd] at hn ⊢
            by_cases ea2 : ((iv_fds (iv_pl p)).getD k (0, 0, 0)).1 = 2
            · rw [ea2] at c3
              have c5 : 2 ≤ (se_seg (se_tt t).2.2.2 k).1 := Nat.le_of_ble_eq_true c3
              unfold se_k at c2
              split at c2
              · next e => rw [e] at c5; omega
              · next e => rw [e] at c5; omega
              · obtain ⟨q, rfl, -⟩ := c2
                rw [br_oth (fun x => by rw [c4]; intro q; cases q) (fun x => by rw [c4]; intro q; cases q)]
                exact hn
            · by_cases ea1 : ((iv_fds (iv_pl p)).getD k (0, 0, 0)).1 = 1
              · rw [ea1] at c3 ⊢
                have c3 : (Nat.beq (se_seg (se_tt t).2.2.2 k).1 0 && (decide (0 ≤ (se_seg (se_tt t).2.2.2 k).2.1) && decide ((se_seg (se_tt t).2.2.2 k).2.2 ≤ 1))) = true := c3
                rw [Bool.and_eq_true, Bool.and_eq_true, decide_eq_true_eq, decide_eq_true_eq] at c3
                have c5 := Nat.eq_of_beq_eq_true c3.1
                unfold se_k at c2
                rw [c5] at c2
                obtain ⟨n, rfl, g1, g2⟩ := c2
                rw [br_int q1 c4]
                show 0 ≤ _ ∧ _ ≤ _
                omega
              · have c5 : (se_seg (se_tt t).2.2.2 k).1 = 0 := by
                  refine br_kd0 c3 ?_ ?_
                  · split
                    · decide
                    · next e => exact absurd e ea1
                    · decide
                  · split
                    · next e => exact absurd e ea2
                    · decide
                    · decide
                unfold se_k at c2
                rw [c5] at c2
                obtain ⟨n, rfl, -, -⟩ := c2
                rw [br_int q1 c4, if_neg ea1]
                exact iv_t32 n
          · have c4 : se_get m p k = none := by rw [br_get_obj b1, List.getElem?_eq_none (by omega)]
            rw [br_oth (fun x => by rw [c4]; intro q; cases q) (fun x => by rw [c4]; intro q; cases q)]
            exact hN p k
        · cases hp
      · cases hp
    · have c4 : se_get m p k = none := by
        unfold se_get
        rw [List.getElem?_eq_none (by omega)]
      rw [br_oth (fun x => by rw [c4]; intro q; cases q) (fun x => by rw [c4]; intro q; cases q)]
      exact hN p k
  · rw [br_low_m (by omega)]
    exact hN p k
end BRH
def br_kk (v : iv_Z) (d : se_D) : Prop := d.2.1 = 0 ∧ match v.1 with
  | 0 => d.1.1 = 0 ∧ d.1.2.1 ≤ v.2 ∧ v.2 ≤ d.1.2.2
  | 1 => d.1.1 = 1
  | _ => ∃ u, st_ty v.2.toNat = some u ∧ d.1.1 = u + 2
def br_fit : List iv_Z → List se_D → Prop
  | [], [] => True
  | v :: vs, d :: ds => br_kk v d ∧ br_fit vs ds
  | _, _ => False
theorem br_fit_ok : ∀ {As : List iv_Z} {ds : List se_D}, br_fit As ds → iv_ss As → As.length = ds.length ∧ ∀ (k : Nat) (d : se_D), ds[k]? = some d → ∃ w, (As.map iv_cz)[k]? = some w ∧ se_k st_ty d.1 w ∧ d.2.1 = 0
  | [], [], _, _ => ⟨rfl, fun k d h => by simp at h⟩
  | v :: vs, d :: ds, h, hs => by
    obtain ⟨g1, g2⟩ := br_fit_ok h.2 (fun u hu => hs u (List.mem_cons_of_mem _ hu))
    refine ⟨by rw [List.length_cons, List.length_cons, g1], fun k e hk => ?_⟩
    cases k with
    | zero =>
      cases hk
      refine ⟨iv_cz v, rfl, ?_, h.1.1⟩
      have hv := hs v List.mem_cons_self
      have hq := h.1.2
      unfold iv_cz
      obtain ⟨a, b⟩ := v
      match a, hv, hq with
      | 0, hv, hq =>
        unfold se_k
        rw [hq.1]
        exact ⟨_, rfl, by rw [iv_of32 hv]; exact hq.2.1, by rw [iv_of32 hv]; exact hq.2.2⟩
      | 1, hv, hq =>
        unfold se_k
        rw [show d.1.1 = 1 from hq]
        exact ⟨_, rfl⟩
      | a + 2, hv, hq =>
        obtain ⟨u, q1, q2⟩ := hq
        unfold se_k
        rw [q2]
        exact ⟨_, rfl, q1⟩
    | succ k => exact g2 k e hk
  | [], _ :: _, h, _ => h.elim
  | _ :: _, [], h, _ => h.elim
def br_lv : List iv_Z → Nat → List (Option se_V)
  | [], _ => []
  | v :: vs, n => if Nat.beq v.1 1 then some (1, n, 0) :: none :: br_lv vs (n + 1) else some (1, n, 0) :: br_lv vs (n + 1)
theorem br_lv_ok : ∀ {vs : List iv_Z} (k n i : Nat) (v : se_V), (br_lv vs n)[i]? = some (some v) → ∃ j x, v = (1, n + j, 0) ∧ (vs.map iv_cz)[j]? = some x ∧ mm_lget (lv_args k (vs.map iv_cz)) (k + i) = some x
  | [], k, n, i, v, h => by simp [br_lv] at h
  | u :: vs, k, n, i, v, h => by
    unfold br_lv at h
    rw [List.map_cons]
    unfold lv_args
    have hc : (iv_cz u).category = if u.1 = 1 then 2 else 1 := iv_cv_cat
    by_cases hL : u.1 = 1
    · rw [if_pos (by rw [hL]; rfl)] at h
      rw [hc, if_pos hL, if_pos rfl]
      match i, h with
      | 0, h => simp at h; subst h; exact ⟨0, _, rfl, rfl, mm_lget_cons_eq⟩
      | 1, h => simp at h
      | i + 2, h =>
        simp at h
        obtain ⟨j, x, g1, g2, g3⟩ := br_lv_ok (k + 2) (n + 1) i v h
        exact ⟨j + 1, x, by rw [g1]; congr 2; omega, g2, by rw [mm_lget_cons_ne (by omega), ← g3]; congr 1; omega⟩
    · rw [if_neg (fun q => hL (Nat.eq_of_beq_eq_true q))] at h
      rw [hc, if_neg hL, if_neg (by decide)]
      match i, h with
      | 0, h => simp at h; subst h; exact ⟨0, _, rfl, rfl, mm_lget_cons_eq⟩
      | i + 1, h =>
        simp at h
        obtain ⟨j, x, g1, g2, g3⟩ := br_lv_ok (k + 1) (n + 1) i v h
        exact ⟨j + 1, x, by rw [g1]; congr 2; omega, g2, by rw [mm_lget_cons_ne (by omega), ← g3]; congr 1; omega⟩
theorem br_sv {ρ : List Value} {j : Nat} {x : Value} (h : ρ[j]? = some x) : se_v ρ (1, j, 0) = some x := by
  unfold se_v
  rw [if_neg (show ¬ ((1 : Int) = 0) by decide)]
  dsimp only
  rw [h]
  cases x <;> simp
/-- memory that the types and texts allow -/
def br_J (L : Nat) (xs : Nat → Int32) (μ : iv_M) : Prop := se_tm st_ty se_tt (iv_m L xs μ) ∧ rw_J st_ty (iv_m L xs μ)
/-- how a contract comes back: nothing, or an int of a range -/
def br_rvc (c : se_C) : Bool := match c.2.2.1 with
  | [e] => (match e.2.1 with
    | none => true
    | some rv => (match e.1 with
      | [(d, _)] => Nat.beq d.1.1 0 && (decide (rv.1 = 1) && (Nat.beq rv.2.1 c.2.1.1.length && decide (rv.2.2 = 0)))
      | _ => false))
  | _ => false
def br_rv (c : se_C) (r : Option iv_Z) : Prop := match c.2.2.1 with
  | [e] => (match e.2.1 with
    | none => r = none
    | some _ => (match e.1 with
      | [(d, _)] => ∃ z, r = some (0, z) ∧ iv_i32 z ∧ d.1.2.1 ≤ z ∧ z ≤ d.1.2.2
      | _ => True))
  | _ => True
/-- what a contract by types says -/
def br_P (L : Nat) (xs : Nat → Int32) (c : se_C) (μ : iv_M) (r : Option iv_Z) (μ' : iv_M) : Prop := br_J L xs μ' ∧ (∀ p k, ¬ br_in c.2.2.2 p k → μ' p k = μ p k) ∧ br_rv c r
theorem br_C {L : Nat} {xs : Nat → Int32} {vz : Value} {μ : iv_M} {c : se_C} {d : Nat} {As : List iv_Z} (hm : se_Met st_ty se_tt (rw_J st_ty) 38 (mm_zs vz) c) (hW : br_W c.2.2.2 = true) (hc : br_rvc c = true) (hd : 13 * c.1.2 ≤ d) (h1 : iv_ss As → br_fit As (c.2.1.1.map Prod.fst)) (h2 : c.2.1.2.1 = br_lv As 0) (h3 : c.2.1.2.2.1 = []) (h4 : c.2.1.2.2.2 = []) (hJ : br_J L xs μ) : iv_C L xs vz d c.1.1 As μ (br_P L xs c μ) := by
  intro t ht D hD hA hN
  obtain ⟨f1, f2⟩ := br_fit_ok (h1 hA) hA
  have hρ : se_env st_ty (As.map iv_cz) (c.2.1.1.map Prod.fst) := ⟨by rw [List.length_map, f1], fun k e hk => by
    obtain ⟨w, g1, g2, g3⟩ := f2 k e hk
    exact ⟨w, g1, g2, fun q => absurd g3 q⟩⟩
  have hg : se_gl (As.map iv_cz) c.2.1.2.1 (lv_args 0 (As.map iv_cz)) := fun i v hv => by
    rw [h2] at hv
    obtain ⟨j, x, g1, g2, g3⟩ := br_lv_ok 0 0 i v hv
    rw [Nat.zero_add] at g1 g3
    exact ⟨x, g3, by rw [g1]; exact br_sv g2⟩
  obtain ⟨n, τ, v, r1, r2, e, he, δ, q1, q2, q3, q4, q5, q6, q7, q8⟩ := hm D t (As.map iv_cz) (As.map iv_cz) (iv_m L xs μ) (by omega) ht hρ hg (by rw [h3]; intro e he; cases he) (by rw [h4]; intro e he; cases he) hJ.1 hJ.2
  have em := br_eq hW hJ.1 q6 q8
  have hl : τ.2.2.2.1.length = 213 := by rw [em, iv_m_len]
  have key : ∃ r : Option iv_Z, v = r.map iv_cz ∧ br_rv c r ∧ ∀ u, r = some u → iv_nv u.1 u.2 := by
    unfold br_rvc at hc
    unfold br_rv
    split at hc
    · next e' ee =>
      rw [ee] at he
      cases List.mem_singleton.mp he
      split at hc
      · next er =>
        try rw [er]
        exact ⟨none, q4 er, rfl, fun u hu => by cases hu⟩
      · next rv er =>
        try rw [er]
        try dsimp only
        split at hc
        · next d' s' ed =>
          try rw [ed]
          try dsimp only
          rw [Bool.and_eq_true, Bool.and_eq_true, Bool.and_eq_true, decide_eq_true_eq, decide_eq_true_eq] at hc
          obtain ⟨c1, c2, c3, c4⟩ := hc
          have c1 := Nat.eq_of_beq_eq_true c1
          have c3 := Nat.eq_of_beq_eq_true c3
          obtain ⟨x, rfl, q9⟩ := q5 rv er
          obtain ⟨w, g1, g2, -⟩ := q1.2 c.2.1.1.length d' (by rw [ed, List.getElem?_append_right (by rw [List.length_map]; exact Nat.le_refl _), List.length_map, Nat.sub_self]; rfl)
          have : rv = (1, c.2.1.1.length, 0) := by
            obtain ⟨a, b, cc⟩ := rv
            dsimp only at c2 c3 c4
            rw [c2, c3, c4]
          rw [this, br_sv g1] at q9
          cases q9
          unfold se_k at g2
          rw [c1] at g2
          obtain ⟨n, rfl, g3, g4⟩ := g2
          refine ⟨some (0, n.toInt), ?_, ⟨n.toInt, rfl, iv_t32 n, g3, g4⟩, fun u hu => by cases hu; exact iv_t32 n⟩
          show some (Value.int n) = some (Value.int (Int32.ofInt n.toInt))
          rw [Int32.ofInt_toInt]
        · cases hc
    · cases hc
  obtain ⟨r, rfl, k2, k3⟩ := key
  exact ⟨n, τ, r1, r, br_m μ τ.2.2.2.1, r2, em, br_N q6 hl hN, k3, ⟨by rw [← em]; exact q6, by rw [← em]; exact q7⟩, fun p k h => br_fr hJ.1 q8 hN h, k2⟩
theorem iv_C_mono {L : Nat} {xs : Nat → Int32} {vz : Value} {μ : iv_M} {d z : Nat} {As : List iv_Z} {P P' : iv_P} (h : iv_C L xs vz d z As μ P) (hP : ∀ r μ', P r μ' → P' r μ') : iv_C L xs vz d z As μ P' := by
  intro t ht D hD hA hN
  obtain ⟨n, τ, a, r, μ1, b1, b2, b3, b4, b5⟩ := h t ht D hD hA hN
  exact ⟨n, τ, a, r, μ1, b1, b2, b3, b4, hP r μ1 b5⟩
theorem iv_C_le {L : Nat} {xs : Nat → Int32} {vz : Value} {μ : iv_M} {d d' z : Nat} {As : List iv_Z} {P : iv_P} (h : iv_C L xs vz d z As μ P) (hd : d ≤ d') : iv_C L xs vz d' z As μ P := fun t ht D hD => h t ht D (by omega)
theorem iv_C_N {L : Nat} {xs : Nat → Int32} {vz : Value} {μ : iv_M} {d z : Nat} {As : List iv_Z} {P : iv_P} (h : iv_N μ → iv_ss As → iv_C L xs vz d z As μ P) : iv_C L xs vz d z As μ P := fun t ht D hD hA hN => h hN hA t ht D hD hA hN
theorem iv_rg64 (a b : Int) : iv_i64 (iv_lor a b) := iv_t64 _
def iv_slot (p k : Nat) : Bool := Nat.ble 38 p && (Nat.blt p 213 && (match iv_ars (iv_pl p) with
  | some a => Nat.blt k a.2.1 && !(Nat.beq a.1 5)
  | none => match (iv_fds (iv_pl p))[k]? with
    | some f => !(Nat.beq f.1 2)
    | none => false))
theorem iv_slot_ok {L : Nat} {xs : Nat → Int32} {μ : iv_M} {p k : Nat} (h : iv_slot p k = true) : 38 ≤ p ∧ p < 213 ∧ ((∃ x, se_get (iv_m L xs μ) p k = some (.int x)) ∨ ∃ x, se_get (iv_m L xs μ) p k = some (.long x)) := by
  unfold iv_slot at h
  rw [Bool.and_eq_true, Bool.and_eq_true] at h
  obtain ⟨h1, h2, h3⟩ := h
  have h1 := Nat.le_of_ble_eq_true h1
  have h2 := Nat.blt_eq.mp h2
  refine ⟨h1, h2, ?_⟩
  split at h3
  · next a e =>
    rw [Bool.and_eq_true] at h3
    rw [br_get_arr (by rw [iv_m_own h1 h2]; exact congrArg some (iv_cl_arr rfl e)), br_range_get, if_pos (Nat.blt_eq.mp h3.1)]
    unfold iv_av
    split
    · exact Or.inr ⟨_, rfl⟩
    · next e5 => rw [e5] at h3; exact absurd h3.2 (by decide)
    · exact Or.inl ⟨_, rfl⟩
  · next e =>
    split at h3
    · next f ef =>
      have hk := (List.getElem?_eq_some_iff.mp ef).1
      rw [br_get_obj (by rw [iv_m_own h1 h2]; exact congrArg some (iv_cl_obj rfl e)), br_range_get, if_pos hk, List.getD_eq_getElem?_getD, ef]
      unfold iv_fv
      dsimp only [Option.getD]
      split
      · next e2 => rw [e2] at h3; exact absurd h3 (by decide)
      · exact Or.inl ⟨_, rfl⟩
    · cases h3
theorem iv_m_slot {L : Nat} {xs : Nat → Int32} {μ1 μ2 : iv_M} (h : iv_m L xs μ1 = iv_m L xs μ2) (hN1 : iv_N μ1) (hN2 : iv_N μ2) {p k : Nat} (hs : iv_slot p k = true) : μ1 p k = μ2 p k := by
  obtain ⟨h1, h2, h3⟩ := iv_slot_ok (L := L) (xs := xs) (μ := μ1) hs
  obtain ⟨a1, a2⟩ := br_get0 (L := L) (xs := xs) (k := k) h1 h2 hN1
  obtain ⟨b1, b2⟩ := br_get0 (L := L) (xs := xs) (k := k) h1 h2 hN2
  rw [← h] at b1 b2
  rcases h3 with ⟨x, hx⟩ | ⟨x, hx⟩
  · rw [← a1 x hx, ← b1 x hx]
  · rw [← a2 x hx, ← b2 x hx]
/-- two contracts of one call hold of one run -/
theorem iv_C_and {L : Nat} {xs : Nat → Int32} {vz : Value} {μ : iv_M} {d z : Nat} {As : List iv_Z} {P1 P2 : iv_P} (h1 : iv_C L xs vz d z As μ P1) (h2 : iv_C L xs vz d z As μ P2) (Q2 : iv_P) (hu : ∀ (r : Option iv_Z) (μ1 : iv_M) (r' : Option iv_Z) (μ2 : iv_M), r.map iv_cz = r'.map iv_cz → iv_m L xs μ1 = iv_m L xs μ2 → iv_N μ1 → iv_N μ2 → P2 r' μ2 → Q2 r μ1) : iv_C L xs vz d z As μ (fun r μ' => P1 r μ' ∧ Q2 r μ') := by
  intro t ht D hD hA hN
  obtain ⟨n1, τ1, a1, r1, μ1, b1, b2, b3, b4, b5⟩ := h1 t ht D hD hA hN
  obtain ⟨n2, τ2, a2, r2, μ2, c1, c2, c3, c4, c5⟩ := h2 t ht D hD hA hN
  have e1 := mm_run_le 38 (mm_zs vz) (Nat.le_max_left n1 n2) a1
  have e2 := mm_run_le 38 (mm_zs vz) (Nat.le_max_right n1 n2) a2
  rw [e1] at e2
  have e3 : τ1 = τ2 := Option.some.inj e2
  rw [← e3] at c1 c2
  rw [b1] at c1
  rw [b2] at c2
  exact ⟨n1, τ1, a1, r1, μ1, b1, b2, b3, b4, b5, hu r1 μ1 r2 μ2 (Option.some.inj c1) c2 b3 c3 c5⟩
