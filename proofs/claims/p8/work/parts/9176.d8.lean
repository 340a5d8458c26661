/-! ===== printed by wip/iv/gen_d8.py: rot, a day, days of the class by views ===== -/
/-- what a contract leaves of the view but planks and sunk; of the whole view -/
def fk (μ μ' : iv_M) : Prop := μ' 39 2 = μ 39 2 ∧ μ' 39 4 = μ 39 4 ∧ μ' 39 9 = μ 39 9 ∧ ∀ i : Int, 0 ≤ i → i < 10 → μ' (i + 55) 0 = μ (i + 55) 0
def fkW (W : se_W) : Bool := rl_off W (39, 2) && (rl_off W (39, 4) && (rl_off W (39, 9) && fr_l (fun i => (i + 55, 0)) W))
theorem fk_of {W : se_W} {μ μ' : iv_M} (h : fkW W = true) (hf : ∀ p k, ¬ br_in W p k → μ' p k = μ p k) : fk μ μ' := by
  unfold fkW at h
  rw [Bool.and_eq_true, Bool.and_eq_true, Bool.and_eq_true] at h
  exact ⟨hf 39 2 (rl_off_ok (s := (39, 2)) h.1), hf 39 4 (rl_off_ok (s := (39, 4)) h.2.1), hf 39 9 (rl_off_ok (s := (39, 9)) h.2.2.1), fun i i0 i1 => fr_i (c := 55) (k := 0) h.2.2.2 hf i0 i1⟩
theorem fk_rfl (a : iv_M) : fk a a := ⟨rfl, rfl, rfl, fun _ _ _ => rfl⟩
theorem fk_tr {a b c : iv_M} (h1 : fk a b) (h2 : fk b c) : fk a c := ⟨h2.1.trans h1.1, h2.2.1.trans h1.2.1, h2.2.2.1.trans h1.2.2.1, fun i i0 i1 => (h2.2.2.2 i i0 i1).trans (h1.2.2.2 i i0 i1)⟩
def fp (μ μ' : iv_M) : Prop := ∀ i : Int, 0 ≤ i → i < 10 → μ' (i + 55) 2 = μ (i + 55) 2
theorem fp_of {W : se_W} {μ μ' : iv_M} (h : fr_l (fun i => (i + 55, 2)) W = true) (hf : ∀ p k, ¬ br_in W p k → μ' p k = μ p k) : fp μ μ' := fun i i0 i1 => fr_i (c := 55) (k := 2) h hf i0 i1
theorem fp_tr {a b c : iv_M} (h1 : fp a b) (h2 : fp b c) : fp a c := fun i i0 i1 => (h2 i i0 i1).trans (h1 i i0 i1)
def fq (μ μ' : iv_M) : Prop := fk μ μ' ∧ fp μ μ' ∧ ksu μ μ'
def fqW (W : se_W) : Bool := fkW W && (fr_l (fun i => (i + 55, 2)) W && fr_l (fun i => (i + 55, 6)) W)
theorem fq_of {W : se_W} {μ μ' : iv_M} (h : fqW W = true) (hf : ∀ p k, ¬ br_in W p k → μ' p k = μ p k) : fq μ μ' := by
  unfold fqW at h
  rw [Bool.and_eq_true, Bool.and_eq_true] at h
  exact ⟨fk_of h.1 hf, fp_of h.2.1 hf, ksu_W h.2.2 hf⟩
theorem fq_tr {a b c : iv_M} (h1 : fq a b) (h2 : fq b c) : fq a c := ⟨fk_tr h1.1 h2.1, fp_tr h1.2.1 h2.2.1, ksu_tr h1.2.2 h2.2.2⟩
section D8
variable {L : Nat} {xs : Nat → Int32} {vz : Value} {μ : iv_M}
theorem vC_upd {v : Int} : vC (iv_upd μ 38 7 v) = vC μ := by
  have e : ∀ p j : Int, j ≠ 7 → iv_upd μ 38 7 v p j = μ p j := fun p j h => iv_upd_ne _ _ (Or.inr h)
  unfold vC
  simp only [e _ 2 (by decide), e _ 4 (by decide), e _ 9 (by decide), e _ 0 (by decide), e _ 6 (by decide)]
/-- of one call: by values and by types, that comes back with nothing -/
theorem br_two {d z : Nat} {As : List iv_Z} {P1 : iv_P} {c : se_C} {F : iv_M → iv_M → Prop} (h1 : iv_C L xs vz d z As μ P1) (h2 : iv_C L xs vz d z As μ (br_P L xs c μ)) (hr : ∀ r, br_rv c r → r = none) (hF : (∀ {m1 m2 : iv_M}, iv_m L xs m1 = iv_m L xs m2 → iv_N m1 → iv_N m2 → F μ m2 → F μ m1)) (hf : ∀ μ', (∀ p k, ¬ br_in c.2.2.2 p k → μ' p k = μ p k) → F μ μ') : iv_C L xs vz d z As μ (fun r μ' => P1 r μ' ∧ br_J L xs μ' ∧ F μ μ' ∧ r = none) :=
  iv_C_and h1 h2 (fun r μ' => br_J L xs μ' ∧ F μ μ' ∧ r = none) (fun r m1 r' m2 a1 a2 n1 n2 a3 => by
    obtain ⟨q1, q2, q3⟩ := a3
    have q3 := hr r' q3
    subst q3
    refine ⟨by unfold br_J at q1 ⊢; rw [a2]; exact q1, hF a2 n1 n2 (hf m2 q2), ?_⟩
    cases r with
    | none => rfl
    | some _ => cases a1)
theorem sl_i {m1 m2 : iv_M} {c k : Nat} (hs : (List.range 10).all (fun i => iv_slot (i + c) k) = true) (h : iv_m L xs m1 = iv_m L xs m2) (hN1 : iv_N m1) (hN2 : iv_N m2) {i : Int} (i0 : 0 ≤ i) (i1 : i < 10) : m1 (i + c) k = m2 (i + c) k := by
  obtain ⟨j, rfl⟩ := Int.eq_ofNat_of_zero_le i0
  have := iv_m_slot h hN1 hN2 (List.all_eq_true.mp hs j (List.mem_range.mpr (by omega)))
  rw [show ((j + c : Nat) : Int) = (j : Int) + (c : Int) by omega] at this
  exact this
theorem fk_m {m1 m2 : iv_M} (h : iv_m L xs m1 = iv_m L xs m2) (hN1 : iv_N m1) (hN2 : iv_N m2) (hF : fk μ m2) : fk μ m1 := by
  obtain ⟨a, b, c, e⟩ := hF
  exact ⟨(iv_m_slot (p := 39) (k := 2) h hN1 hN2 (by decide +kernel)).trans a, (iv_m_slot (p := 39) (k := 4) h hN1 hN2 (by decide +kernel)).trans b, (iv_m_slot (p := 39) (k := 9) h hN1 hN2 (by decide +kernel)).trans c, fun i i0 i1 => (sl_i (c := 55) (k := 0) (by decide +kernel) h hN1 hN2 i0 i1).trans (e i i0 i1)⟩
theorem fp_m {m1 m2 : iv_M} (h : iv_m L xs m1 = iv_m L xs m2) (hN1 : iv_N m1) (hN2 : iv_N m2) (hF : fp μ m2) : fp μ m1 := fun i i0 i1 => (sl_i (c := 55) (k := 2) (by decide +kernel) h hN1 hN2 i0 i1).trans (hF i i0 i1)
theorem c_sink2 {d : Nat} (hL : L ≤ 3072) (hv : vz.category = 1) (hd : 45 ≤ d) (hJ : br_J L xs μ) {f : Int} (hf : 0 ≤ f ∧ f ≤ 9) : iv_C L xs vz d 115 [(12, 39), (0, f), (4, 187)] μ (fun r μ' => csu f μ μ' ∧ br_J L xs μ' ∧ (fk μ μ' ∧ fp μ μ') ∧ r = none) :=
  br_two (c := sc_52) (F := fun a b => fk a b ∧ fp a b) (c_sink hL hv hd hJ hf) (pb_115 hv (by omega) hJ) (fun r h => h) (fun h n1 n2 q => ⟨fk_m h n1 n2 q.1, fp_m h n1 n2 q.2⟩) (fun μ' hf => ⟨fk_of (by decide +kernel) hf, fp_of (by decide +kernel) hf⟩)
theorem c_rot2 {d : Nat} (hL : L ≤ 3072) (hv : vz.category = 1) (hd : 60 ≤ d) {P : iv_P} {μ0 : iv_M} (hc : 0 ≤ μ0 39 2 ∧ μ0 39 2 ≤ 10) {b : Int} (hb0 : b = 0 → iv_rem (μ0 39 9) 10 ≠ 0) (hb1 : b ≠ 0 → iv_rem (μ0 39 9) 10 = 0) (hP : ∀ μ', rinv (rpC (μ0 39 9)) (rsC (μ0 39 9)) (μ0 39 2) (vC μ0).2.2.2.1 (vC μ0).2.2.2.2.1 (vC μ0).2.2.2.2.2 (vC μ').2.2.2.2.1 (vC μ').2.2.2.2.2 → P none μ') : ∀ (n : Nat) (l : Int) (μ : iv_M), 0 ≤ l → 10 ≤ l + n → l ≤ μ0 39 2 → br_J L xs μ → fk μ0 μ → rinv (rpC (μ0 39 9)) (rsC (μ0 39 9)) l (vC μ0).2.2.2.1 (vC μ0).2.2.2.2.1 (vC μ0).2.2.2.2.2 (vC μ).2.2.2.2.1 (vC μ).2.2.2.2.2 → iv_G L xs vz d 114 18 [some (12, 39), some (4, 187), some (0, b), some (0, l), none] [] μ P := by
  intro n
  have fin : ∀ (l : Int) (μ : iv_M), l ≥ μ 39 2 → l ≤ μ0 39 2 → fk μ0 μ → rinv (rpC (μ0 39 9)) (rsC (μ0 39 9)) l (vC μ0).2.2.2.1 (vC μ0).2.2.2.2.1 (vC μ0).2.2.2.2.2 (vC μ).2.2.2.2.1 (vC μ).2.2.2.2.2 → P none μ := fun l μ h1 h2 hk hr => by
    have e := hk.1
    rw [show l = μ0 39 2 by omega] at hr
    exact hP μ hr
  induction n with
  | zero =>
    intro l μ h0 h1 h2 hJ hk hr
    have e := hk.1
    refine sg_114_18 hL (by omega) h0 (by omega) (by omega) ?_ ?_ ?_ ?_ ?_ ?_ ?_ <;> intros <;> first | exact fin l μ (by omega) h2 hk hr | omega
  | succ n ih =>
    intro l μ h0 h1 h2 hJ hk hr
    have e := hk.1
    have ek : l < 10 → (vC μ0).2.2.2.1 l = μ (l + 55) 0 := fun q => (hk.2.2.2 l h0 q).symm
    have wk : ∀ (μ' : iv_M) (x : Int), iv_G L xs vz d 114 18 [some (12, 39), some (4, 187), some (0, b), some (0, l + 1), none] [] μ' P → iv_G L xs vz d 114 18 [some (12, 39), some (4, 187), some (0, b), some (0, l + 1), some (6, x)] [] μ' P := fun μ' x h => iv_wk h ⟨Or.inr rfl, Or.inr rfl, Or.inr rfl, Or.inr rfl, Or.inl rfl, trivial⟩
    have stay : l < 10 → l < μ0 39 2 → (μ (l + 55) 6 ≠ 0 ∨ (μ (l + 55) 0 ≠ 5 ∧ iv_rem (μ0 39 9) 10 ≠ 0)) → iv_G L xs vz d 114 18 [some (12, 39), some (4, 187), some (0, b), some (0, l + 1), none] [] μ P := fun q q2 c => by
      refine ih _ _ (by omega) (by omega) (by omega) hJ hk (rinv_next hr (fun i _ _ _ => ⟨rfl, rfl⟩) ?_ ?_)
      · unfold rpC
        rw [ek q]
        exact (if_pos c).symm
      · unfold rsC
        rw [ek q]
        exact (if_pos c).symm
    have rot : l < 10 → μ (l + 55) 6 = 0 → (μ (l + 55) 0 = 5 ∨ iv_rem (μ0 39 9) 10 = 0) → ∀ μ' : iv_M, (∀ i, 0 ≤ i → i < 10 → i ≠ l → μ' (i + 55) 2 = μ (i + 55) 2 ∧ μ' (i + 55) 6 = μ (i + 55) 6) → μ' (l + 55) 2 = iv_w (μ (l + 55) 2 - 1) → μ' (l + 55) 6 = (if iv_w (μ (l + 55) 2 - 1) ≤ 0 then 1 else μ (l + 55) 6) → rinv (rpC (μ0 39 9)) (rsC (μ0 39 9)) (l + 1) (vC μ0).2.2.2.1 (vC μ0).2.2.2.2.1 (vC μ0).2.2.2.2.2 (vC μ').2.2.2.2.1 (vC μ').2.2.2.2.2 := fun q c1 c2 μ' hr' hp hs => by
      have c : ¬ (μ (l + 55) 6 ≠ 0 ∨ (μ (l + 55) 0 ≠ 5 ∧ iv_rem (μ0 39 9) 10 ≠ 0)) := by omega
      refine rinv_next hr hr' ?_ ?_
      · unfold rpC
        rw [ek q]
        exact hp.trans (if_neg c).symm
      · unfold rsC
        rw [ek q]
        exact hs.trans (if_neg c).symm
    have ups : ∀ i, 0 ≤ i → i < 10 → i ≠ l → iv_upd μ (l + 55) 2 (iv_w (μ (l + 55) 2 - 1)) (i + 55) 2 = μ (i + 55) 2 ∧ iv_upd μ (l + 55) 2 (iv_w (μ (l + 55) 2 - 1)) (i + 55) 6 = μ (i + 55) 6 := fun i _ _ q => ⟨iv_upd_ne _ _ (Or.inl (by omega)), iv_upd_ne _ _ (Or.inl (by omega))⟩
    have ul : iv_upd μ (l + 55) 2 (iv_w (μ (l + 55) 2 - 1)) (l + 55) 2 = iv_w (μ (l + 55) 2 - 1) := iv_upd_same _ _ _ _
    have us : iv_upd μ (l + 55) 2 (iv_w (μ (l + 55) 2 - 1)) (l + 55) 6 = μ (l + 55) 6 := iv_upd_ne _ _ (Or.inr (by decide))
    have hk2 : fk μ0 (iv_upd μ (l + 55) 2 (iv_w (μ (l + 55) 2 - 1))) := fk_tr hk ⟨iv_upd_ne _ _ (Or.inl (by omega)), iv_upd_ne _ _ (Or.inl (by omega)), iv_upd_ne _ _ (Or.inl (by omega)), fun i _ _ => iv_upd_ne _ _ (Or.inr (by decide))⟩
    have hJ2 : l < 10 → br_J L xs (iv_upd μ (l + 55) 2 (iv_w (μ (l + 55) 2 - 1))) := fun q => boA (c := 55) (n := 10) (k := 2) (l := -2147483648) (h := 2147483647) (by decide +kernel) hJ h0 q (iv_w_i32 _) (iv_w_i32 _)
    have swim : l < 10 → l < μ0 39 2 → μ (l + 55) 6 = 0 → (μ (l + 55) 0 = 5 ∨ iv_rem (μ0 39 9) 10 = 0) → iv_upd μ (l + 55) 2 (iv_w (μ (l + 55) 2 - 1)) (l + 55) 2 > 0 → iv_G L xs vz d 114 18 [some (12, 39), some (4, 187), some (0, b), some (0, l + 1), none] [] (iv_upd μ (l + 55) 2 (iv_w (μ (l + 55) 2 - 1))) P := fun q q2 c1 c2 c3 => by
      rw [ul] at c3
      exact ih _ _ (by omega) (by omega) (by omega) (hJ2 q) hk2 (rot q c1 c2 _ ups ul (by rw [us, if_neg (by omega)]))
    have sink : l < 10 → l < μ0 39 2 → μ (l + 55) 6 = 0 → (μ (l + 55) 0 = 5 ∨ iv_rem (μ0 39 9) 10 = 0) → iv_upd μ (l + 55) 2 (iv_w (μ (l + 55) 2 - 1)) (l + 55) 2 ≤ 0 → iv_G L xs vz d 114 76 [some (12, 39), some (4, 187), some (0, b), some (0, l), some (6, l + 55)] [(4, 187), (0, l), (12, 39)] (iv_upd μ (l + 55) 2 (iv_w (μ (l + 55) 2 - 1))) P := fun q q2 c1 c2 c3 => by
      rw [ul] at c3
      refine iv_call (want := 1) (y := 114) (pc := 76) (z := 115) (cls := 10) (sa := [(4, 187), (0, l)]) (th := [(12, 39)]) (r := []) (d' := d - 1) (show iv_cck 1 114 76 115 = true by decide +kernel) (Or.inl ⟨rfl, _, rfl⟩) (show iv_mck 1 115 2 10 3 = true by decide +kernel) (show (0 : Nat) ≤ 8 by decide) (by omega) (iv_C_mono (c_sink2 hL hv (by omega) (hJ2 q) ⟨h0, by omega⟩) (fun v μ2 hp => ?_))
      obtain ⟨⟨q0, q1⟩, j2, ⟨k2, p2⟩, rfl⟩ := hp
      refine sg_114_79 hL (by omega) h0 (by omega) (wk _ _ (ih _ _ (by omega) (by omega) (by omega) j2 (fk_tr hk2 k2) (rot q c1 c2 _ (fun i i0 i1 hi => ?_) ?_ ?_)))
      · obtain ⟨a, b⟩ := ups i i0 i1 hi
        exact ⟨(p2 i i0 i1).trans a, (q1 i i0 i1 hi).trans b⟩
      · exact (p2 l h0 q).trans ul
      · rw [q0, if_pos c3]
    refine sg_114_18 hL (by omega) h0 (by omega) (by omega) ?_ ?_ ?_ ?_ ?_ ?_ ?_
    · intro q
      exact fin l μ q h2 hk hr
    · intro q a
      exact wk _ _ (stay (by omega) (by omega) (Or.inl a))
    · intro q a b c
      exact wk _ _ (swim (by omega) (by omega) a (Or.inl b) c)
    · intro q a b c
      exact sink (by omega) (by omega) a (Or.inl b) c
    · intro q a k t
      exact wk _ _ (stay (by omega) (by omega) (Or.inr ⟨k, hb0 t⟩))
    · intro q a k t c
      exact wk _ _ (swim (by omega) (by omega) a (Or.inr (hb1 t)) c)
    · intro q a k t c
      exact sink (by omega) (by omega) a (Or.inr (hb1 t)) c
theorem cn0 (hJ : br_J L xs μ) (hN : iv_N μ) : True := trivial
theorem c_rot {d : Nat} (hL : L ≤ 3072) (hv : vz.category = 1) (hd : 60 ≤ d) (hJ : br_J L xs μ) (hc : 0 ≤ μ 39 2 ∧ μ 39 2 ≤ 10) : iv_C L xs vz d 114 [(12, 39), (4, 187)] μ (fun r μ' => rinv (rpC (μ 39 9)) (rsC (μ 39 9)) (μ 39 2) (vC μ).2.2.2.1 (vC μ).2.2.2.2.1 (vC μ).2.2.2.2.2 (vC μ').2.2.2.2.1 (vC μ').2.2.2.2.2 ∧ br_J L xs μ' ∧ fk μ μ' ∧ r = none) := by
  refine br_two (c := sc_53) (F := fk) ?_ (pb_114 hv (by omega) hJ) (fun r h => h) (fun h n1 n2 q => fk_m h n1 n2 q) (fun μ' hf => fk_of (by decide +kernel) hf)
  refine iv_C_of (sg_114_0 hL (by omega) ?_ ?_) <;> intro h
  · exact c_rot2 hL hv (by omega) hc (fun _ => h) (fun q => absurd rfl q) (fun μ' h => h) 10 0 μ (by decide) (by decide) hc.1 hJ (fk_rfl _) rinv_0
  · exact c_rot2 hL hv (by omega) hc (fun q => absurd q (by decide)) (fun _ => h) (fun μ' h => h) 10 0 μ (by decide) (by decide) hc.1 hJ (fk_rfl _) rinv_0
end D8
