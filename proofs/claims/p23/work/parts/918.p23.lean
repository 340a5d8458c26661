/-! ===== feed, text on both sides ===== -/
def fd_y (y : Int) (j : Nat) : Int := iv_l2i (iv_land (iv_lshr y (iv_w (8 * (j : Int)))) 255)
theorem fd_byte (z : Int) : iv_and (iv_i2b (iv_i2b (iv_l2i z))) 255 = iv_l2i (iv_land z 255) := by
  unfold iv_and iv_i2b iv_l2i iv_land
  simp only [Int32.ofInt_toInt, Int64.ofInt_toInt]
  refine congrArg Int32.toInt ?_
  apply Int32.toBitVec_inj.mp
  generalize Int64.ofInt z = x
  have e1 : ((x.toInt32.toInt8.toInt32.toInt8.toInt32) &&& Int32.ofInt 255).toBitVec = ((((x.toBitVec.signExtend 32).signExtend 8).signExtend 32).signExtend 8).signExtend 32 &&& 255#32 := rfl
  have e2 : ((x &&& Int64.ofInt 255).toInt32).toBitVec = (x.toBitVec &&& 255#64).signExtend 32 := rfl
  rw [e1, e2]
  generalize x.toBitVec = v
  apply BitVec.eq_of_getLsbD_eq
  intro i hi
  have h255 : ∀ i : Nat, i < 32 → (255#32).getLsbD i = decide (i < 8) := by decide
  have h255' : ∀ i : Nat, i < 32 → (255#64).getLsbD i = decide (i < 8) := by decide
  simp only [BitVec.getLsbD_and, BitVec.getLsbD_signExtend, h255 i hi, h255' i hi]
  by_cases h8 : i < 8
  · simp [h8, hi, show i < 64 by omega]
  · simp [h8, hi, show i < 64 by omega]
def fd_B (b : Nat → Int) (n : Nat) (y : Int) : Nat → Int := fun i => if i < n then b i else fd_y y (i - n)
def fd_N (n : Nat) (x : Int) : Nat := if 1 ≤ x ∧ x ≤ 8 ∧ (n : Int) + x ≤ 160 then n + x.toNat else n
section P23A
variable {L : Nat} {xs : Nat → Int32} {vz : Value} {b : Nat → Int} {n : Nat} {μ : iv_M}
theorem fd_B_rd {y : Int} (h : rd_B b n μ) : rd_B (fd_B b n y) n μ := ⟨h.1, h.2.1, fun k hk => by unfold fd_B; rw [if_pos hk]; exact h.2.2 k hk⟩
theorem fd_B_rr {y : Int} (h : rr_B b n μ) : rr_B (fd_B b n y) n μ := ⟨h.1, h.2.1, fun k hk => by unfold fd_B; rw [if_pos hk]; exact h.2.2.1 k hk, h.2.2.2.1, h.2.2.2.2⟩
theorem rd_B_e {b : Nat → Int} {n : Nat} {p k v : Int} (hp : p ≠ 182) (hp2 : p ≠ 183) (h : rd_B b n μ) : rd_B b n (iv_upd μ p k v) := ⟨(iv_upd_ne _ _ (Or.inl (fun e => hp e.symm))).trans h.1, h.2.1, fun k hk => (iv_upd_ne _ _ (Or.inl (fun e => hp2 e.symm))).trans (h.2.2 k hk)⟩
theorem rr_B_e {b : Nat → Int} {n : Nat} {p k v : Int} (hp : p ≠ 195 ∨ k ≠ 6) (hp2 : p ≠ 199 ∧ p ≠ 200 ∧ p ≠ 201) (h : rr_B b n μ) : rr_B b n (iv_upd μ p k v) := ⟨(iv_upd_ne _ _ (by omega)).trans h.1, h.2.1, fun k hk => by rw [iv_upd_ne _ _ (Or.inl (by omega))]; exact h.2.2.1 k hk, fun k hk => (iv_upd_ne _ _ (Or.inl (by omega))).trans (h.2.2.2.1 k hk), fun k hk => (iv_upd_ne _ _ (Or.inl (by omega))).trans (h.2.2.2.2 k hk)⟩
theorem fd_c {d : Nat} (hL : L ≤ 3072) (hd : 20 ≤ d) (hB : rd_B b n μ) {x y : Int} : iv_C L xs vz d 127 [(13, 38), (0, x), (1, y)] μ (fun _ μ' => rd_B (fd_B b n y) (fd_N n x) μ') := by
  have e1 := hB.1
  have hn := hB.2.1
  have no : ¬ (1 ≤ x ∧ x ≤ 8 ∧ (n : Int) + x ≤ 160) → rd_B (fd_B b n y) (fd_N n x) (iv_upd μ 38 7 (iv_w ((μ 38 7) + 1))) := fun h => by
    unfold fd_N
    rw [if_neg h]
    exact rd_B_e (by decide) (by decide) (fd_B_rd hB)
  refine iv_C_of (sg_127_0 hL (by omega) (by omega) (by omega) (fun q => no (by omega)) (fun _ q => no (by omega)) (fun _ _ q => no (by omega)) (fun q1 q2 q3 => ?_))
  have hN : fd_N n x = n + x.toNat := by
    unfold fd_N
    rw [if_pos (by omega)]
  rw [hN]
  have lp : ∀ (m k : Nat) (μ1 : iv_M), x ≤ (k : Int) + (m : Int) → (k : Int) ≤ x → rd_B (fd_B b n y) (n + k) μ1 → iv_G L xs vz (d - 1) 129 3 [some (10, 182), some (0, x), some (1, y), none, some (0, (k : Int))] [] μ1 (fun q μ' => ∃ v, q = some (0, v) ∧ rd_B (fd_B b n y) (n + x.toNat) μ') := by
    intro m
    have fin : ∀ (k : Nat) (μ1 : iv_M), (k : Int) ≥ x → (k : Int) ≤ x → rd_B (fd_B b n y) (n + k) μ1 → ∃ v, (some (0, μ1 182 1) : Option iv_Z) = some (0, v) ∧ rd_B (fd_B b n y) (n + x.toNat) μ1 := fun k μ1 h1 h2 h3 => ⟨_, rfl, by rw [show x.toNat = k by omega]; exact h3⟩
    induction m with
    | zero =>
      intro k μ1 h1 h2 h3
      have e := h3.1
      have e2 := h3.2.1
      exact sg_129_3 hL (by omega) (by omega) (by omega) (by omega) (fun q => fin k μ1 q h2 h3) (fun q => by exfalso; omega) (fun q => by exfalso; omega)
    | succ m ih =>
      intro k μ1 h1 h2 h3
      have e := h3.1
      have e2 := h3.2.1
      refine sg_129_3 hL (by omega) (by omega) (by omega) (by omega) (fun q => fin k μ1 q h2 h3) (fun q q2 => by exfalso; omega) (fun q q2 => ?_)
      rw [show iv_w ((k : Int) + 1) = ((k + 1 : Nat) : Int) by rw [iv_w_id (by omega) (by omega)]; omega]
      refine ih (k + 1) _ (by omega) (by omega) ⟨?_, by omega, fun j hj => ?_⟩
      · rw [iv_upd_same, iv_upd_ne _ _ (Or.inl (by decide)), e, iv_w_id (by omega) (by omega)]
        omega
      · rw [iv_upd_ne _ _ (Or.inl (by decide)), e]
        by_cases ej : j = n + k
        · subst ej
          rw [iv_upd_same]
          unfold fd_B
          rw [if_neg (by omega), show n + k - n = k by omega]
          rfl
        · rw [iv_upd_ne _ _ (Or.inr (by omega))]
          exact h3.2.2 j (by omega)
  refine iv_call (want := 1) (y := 127) (pc := 41) (z := 129) (cls := 8) (sa := [(1, y), (0, x)]) (th := [(10, 182)]) (r := []) (d' := d - 1) (show iv_cck 1 127 41 129 = true by decide +kernel) (Or.inl ⟨rfl, _, rfl⟩) (show iv_mck 1 129 2 8 4 = true by decide +kernel) (show (0 : Nat) ≤ 8 by decide) (by omega) (iv_C_mono (iv_C_of (sg_129_0 hL (by omega) (lp x.toNat 0 μ (by omega) (by omega) (fd_B_rd hB)))) (fun q μ' hq => ?_))
  obtain ⟨v, rfl, h⟩ := hq
  exact sg_127_44 hL (by omega) h
theorem fd_r {d : Nat} (hL : L ≤ 3072) (hd : 20 ≤ d) (hB : rr_B b n μ) {x y : Int} : iv_C L xs vz d 286 [(14, 195), (0, x), (1, y)] μ (fun _ μ' => rr_B (fd_B b n y) (fd_N n x) μ') := by
  have e1 := hB.1
  have hn := hB.2.1
  have no : ¬ (1 ≤ x ∧ x ≤ 8 ∧ (n : Int) + x ≤ 160) → rr_B (fd_B b n y) (fd_N n x) (iv_upd μ 195 3 (iv_w ((μ 195 3) + 1))) := fun h => by
    unfold fd_N
    rw [if_neg h]
    exact rr_B_e (Or.inr (by decide)) (by decide) (fd_B_rr hB)
  have lp : ∀ (m k : Nat) (μ1 : iv_M), 1 ≤ x → x ≤ 8 → (n : Int) + x ≤ 160 → x ≤ (k : Int) + (m : Int) → (k : Int) ≤ x → rr_B (fd_B b n y) (n + k) μ1 → iv_G L xs vz d 286 39 [some (14, 195), some (0, x), some (1, y), none, some (0, (k : Int))] [] μ1 (fun _ μ' => rr_B (fd_B b n y) (n + x.toNat) μ') := by
    intro m
    have fin : ∀ (k : Nat) (μ1 : iv_M), (k : Int) ≥ x → (k : Int) ≤ x → rr_B (fd_B b n y) (n + k) μ1 → rr_B (fd_B b n y) (n + x.toNat) μ1 := fun k μ1 h1 h2 h3 => by rw [show x.toNat = k by omega]; exact h3
    induction m with
    | zero =>
      intro k μ1 g1 g2 g3 h1 h2 h3
      have e := h3.1
      have e2 := h3.2.1
      exact sg_286_39 hL (by omega) (by omega) (by omega) (by omega) (fun q => fin k μ1 q h2 h3) (fun q => by exfalso; omega) (fun q => by exfalso; omega)
    | succ m ih =>
      intro k μ1 g1 g2 g3 h1 h2 h3
      have e := h3.1
      have e2 := h3.2.1
      refine sg_286_39 hL (by omega) (by omega) (by omega) (by omega) (fun q => fin k μ1 q h2 h3) (fun q q2 => ?_) (fun q g => g ⟨by omega, by omega⟩)
      rw [show iv_w ((k : Int) + 1) = ((k + 1 : Nat) : Int) by rw [iv_w_id (by omega) (by omega)]; omega]
      refine ih (k + 1) _ g1 g2 g3 (by omega) (by omega) ⟨?_, by omega, fun j hj => ?_, fun j hj => ?_, fun j hj => ?_⟩
      · rw [iv_upd_same, iv_upd_ne _ _ (Or.inl (by decide)), e, iv_w_id (by omega) (by omega)]
        omega
      · rw [iv_upd_ne _ _ (Or.inl (by decide)), e]
        by_cases ej : j = n + k
        · subst ej
          rw [iv_upd_same, fd_byte]
          unfold fd_B
          rw [if_neg (by omega), show n + k - n = k by omega]
          rfl
        · rw [iv_upd_ne _ _ (Or.inr (by omega))]
          exact h3.2.2.1 j (by omega)
      · rw [iv_upd_ne _ _ (Or.inl (by decide)), iv_upd_ne _ _ (Or.inl (by decide))]
        exact h3.2.2.2.1 j hj
      · rw [iv_upd_ne _ _ (Or.inl (by decide)), iv_upd_ne _ _ (Or.inl (by decide))]
        exact h3.2.2.2.2 j hj
  refine iv_C_of (sg_286_0 hL (by omega) (by omega) (by omega) (fun q => no (by omega)) (fun _ q => no (by omega)) (fun q1 q2 q3 => ?_) (fun _ _ q => no (by omega)))
  have hN : fd_N n x = n + x.toNat := by
    unfold fd_N
    rw [if_pos (by omega)]
  rw [hN]
  exact lp x.toNat 0 μ q1 q2 (by omega) (by omega) (by omega) (fd_B_rr hB)
/-- what text answers -/
def tx_A (b : Nat → Int) (n : Nat) (t v : Int) : Prop := ((t < 0 ∨ 4 < t) ∧ v = -100001) ∨ (0 ≤ t ∧ t ≤ 4 ∧ ∃ z, tx_Q b n 3 0 z ∧ ((∃ s, z = .inl s ∧ v = (s : Int)) ∨ (∃ cs, z = .inr cs ∧ v = -1)))
theorem tx_A_one {t v w : Int} (h : tx_A b n t v) (h' : tx_A b n t w) : v = w := by
  rcases h with ⟨a, rfl⟩ | ⟨a1, a2, z, hz, h⟩ <;> rcases h' with ⟨c, rfl⟩ | ⟨c1, c2, z', hz', h'⟩
  · rfl
  · clear h' hz'
    omega
  · clear h hz
    omega
  · have e := tx_one hz hz'
    subst e
    rcases h with ⟨s, rfl, rfl⟩ | ⟨s, rfl, rfl⟩ <;> rcases h' with ⟨s', e, rfl⟩ | ⟨s', e, rfl⟩
    · cases e; rfl
    · cases e
    · cases e
    · rfl
def tx_n (n : Nat) (t : Int) : Nat := if t < 0 ∨ 4 < t then n else 0
theorem tx_c {d : Nat} (hL : L ≤ 3072) (hv : vz.category = 1) (hd : 150 ≤ d) (hB : rd_B b n μ) {x : Int} : iv_C L xs vz d 130 [(13, 38), (0, x)] μ (fun q μ' => (∃ v, q = some (0, v) ∧ tx_A b n x v) ∧ rd_B b (tx_n n x) μ') := by
  have no : (x < 0 ∨ 4 < x) → (∃ v, (some (0, -100001) : Option iv_Z) = some (0, v) ∧ tx_A b n x v) ∧ rd_B b (tx_n n x) (iv_upd μ 38 7 (iv_w ((μ 38 7) + 1))) := fun h => ⟨⟨_, rfl, Or.inl ⟨h, rfl⟩⟩, by unfold tx_n; rw [if_pos h]; exact rd_B_e (by decide) (by decide) hB⟩
  refine iv_C_of (sg_130_0 hL (by omega) (fun q => no (Or.inl q)) (fun _ q => no (Or.inr q)) (fun q1 q2 => ?_))
  have hn0 : tx_n n x = 0 := by
    unfold tx_n
    rw [if_neg (by omega)]
  rw [hn0]
  refine iv_call (want := 1) (y := 130) (pc := 18) (z := 131) (cls := 8) (sa := []) (th := [(10, 182)]) (r := []) (d' := d - 1) (show iv_cck 1 130 18 131 = true by decide +kernel) (Or.inl ⟨rfl, _, rfl⟩) (show iv_mck 1 131 0 8 1 = true by decide +kernel) (show (0 : Nat) ≤ 8 by decide) (by omega) (iv_C_mono (rd_read hL hv (by omega) hB) (fun q μ1 hq => ?_))
  obtain ⟨f1, f2, f3, z, hz, hq⟩ := hq
  have hB0 : rd_B b 0 μ1 := ⟨f3, by decide, fun k hk => absurd hk (Nat.not_lt_zero k)⟩
  rcases hq with ⟨s, rfl, rfl⟩ | ⟨cs, rfl, rfl, hZ⟩
  · exact sg_130_21 hL (by omega) (fun _ => ⟨⟨_, rfl, Or.inr ⟨q1, q2, _, hz, Or.inl ⟨s, rfl, rfl⟩⟩⟩, hB0⟩) (fun q => by exfalso; omega) (fun q => by exfalso; omega) (fun q => by exfalso; omega)
  · refine sg_130_21 hL (by omega) (fun q => by exfalso; omega) (fun _ q => by exfalso; omega) (fun _ _ q => by exfalso; omega) (fun _ _ _ => ?_)
    have h1 : μ1 184 0 = 1 := by
      obtain ⟨c0, c1, c2, -, -, -, -, -, h⟩ := hZ
      exact h
    refine iv_call (want := 1) (y := 130) (pc := 41) (z := 164) (cls := 9) (sa := [(11, 184)]) (th := [(11, x * 3 + 91)]) (r := []) (d' := d - 1) (show iv_cck 1 130 41 164 = true by decide +kernel) (Or.inl ⟨rfl, _, rfl⟩) (show iv_mck 1 164 1 9 2 = true by decide +kernel) (show (0 : Nat) ≤ 8 by decide) (by omega) (iv_C_of (sg_164_0 hL (by omega) (fun _ => ?_) (fun g => g ⟨by omega, by omega⟩)))
    refine sg_130_44 hL (by omega) ⟨⟨_, rfl, Or.inr ⟨q1, q2, _, hz, Or.inr ⟨cs, rfl, rfl⟩⟩⟩, ?_, by decide, fun k hk => absurd hk (Nat.not_lt_zero k)⟩
    unfold iv_cpy
    rw [if_neg (by omega), if_neg (by omega), iv_upd_ne _ _ (Or.inl (by omega)), iv_upd_ne _ _ (Or.inl (by omega))]
    exact f3
theorem tx_r {d : Nat} (hL : L ≤ 3072) (hd : 80 ≤ d) (hB : rr_B b n μ) {x : Int} : iv_C L xs vz d 287 [(14, 195), (0, x)] μ (fun q μ' => (∃ v, q = some (0, v) ∧ tx_A b n x v) ∧ rr_B b (tx_n n x) μ') := by
  have no : (x < 0 ∨ 4 < x) → (∃ v, (some (0, -100001) : Option iv_Z) = some (0, v) ∧ tx_A b n x v) ∧ rr_B b (tx_n n x) (iv_upd μ 195 3 (iv_w ((μ 195 3) + 1))) := fun h => ⟨⟨_, rfl, Or.inl ⟨h, rfl⟩⟩, by unfold tx_n; rw [if_pos h]; exact rr_B_e (Or.inr (by decide)) (by decide) hB⟩
  refine iv_C_of (sg_287_0 hL (by omega) (fun q => no (Or.inl q)) (fun _ q => no (Or.inr q)) (fun q1 q2 => ?_))
  have hn0 : tx_n n x = 0 := by
    unfold tx_n
    rw [if_neg (by omega)]
  rw [hn0]
  refine iv_call (want := 1) (y := 287) (pc := 17) (z := 288) (cls := 12) (sa := []) (th := [(14, 195)]) (r := []) (d' := d - 1) (show iv_cck 1 287 17 288 = true by decide +kernel) (Or.inl ⟨rfl, _, rfl⟩) (show iv_mck 1 288 0 12 1 = true by decide +kernel) (show (0 : Nat) ≤ 8 by decide) (by omega) (iv_C_mono (rr_reads hL (by omega) hB) (fun q μ1 hq => ?_))
  obtain ⟨hF, z, hz, hq⟩ := hq
  have hB0 : rr_B b 0 (iv_upd μ1 195 6 0) := ⟨iv_upd_same _ _ _ _, by decide, fun k hk => absurd hk (Nat.not_lt_zero k), fun k hk => by
    rw [iv_upd_ne _ _ (Or.inl (by decide)), hF _ _ (Or.inl (by decide)) (by decide) (Or.inl (by decide))]
    exact hB.2.2.2.1 k hk, fun k hk => by
    rw [iv_upd_ne _ _ (Or.inl (by decide)), hF _ _ (Or.inl (by decide)) (by decide) (Or.inl (by decide))]
    exact hB.2.2.2.2 k hk⟩
  rcases hq with ⟨s, rfl, rfl, h12⟩ | ⟨cs, rfl, rfl, -, -⟩
  · refine sg_287_20 hL (by omega) (fun q => absurd rfl q) (fun _ => ⟨⟨_, rfl, Or.inr ⟨q1, q2, _, hz, Or.inl ⟨s, rfl, ?_⟩⟩⟩, hB0⟩)
    rw [iv_upd_ne _ _ (Or.inr (by decide)), h12]
  · refine sg_287_20 hL (by omega) (fun _ => ?_) (fun q => by cases q)
    have lp : ∀ (m k : Nat) (μ2 : iv_M), 489 ≤ k + m → k ≤ 489 → rr_B b 0 μ2 → iv_G L xs vz d 287 37 [some (14, 195), some (0, x), some (0, 1), some (0, (k : Int))] [] μ2 (fun q μ' => (∃ v, q = some (0, v) ∧ tx_A b n x v) ∧ rr_B b 0 μ') := by
      intro m
      induction m with
      | zero =>
        intro k μ2 h1 h2 h3
        exact sg_287_37 hL (by omega) (by omega) (fun _ => ⟨⟨_, rfl, Or.inr ⟨q1, q2, _, hz, Or.inr ⟨cs, rfl, rfl⟩⟩⟩, h3⟩) (fun q => by exfalso; omega) (fun q => by exfalso; omega)
      | succ m ih =>
        intro k μ2 h1 h2 h3
        have e1 : iv_w (489 * x) = 489 * x := iv_w_id (by omega) (by omega)
        have e2 : iv_w (528 + 489 * x) = 528 + 489 * x := iv_w_id (by omega) (by omega)
        refine sg_287_37 hL (by omega) (by omega) (fun _ => ⟨⟨_, rfl, Or.inr ⟨q1, q2, _, hz, Or.inr ⟨cs, rfl, rfl⟩⟩⟩, h3⟩) (fun q _ => ?_) (fun q g => ?_)
        · rw [show (k : Int) + 1 = ((k + 1 : Nat) : Int) by omega]
          exact ih (k + 1) _ (by omega) (by omega) (rr_B_e (Or.inl (by decide)) (by decide) h3)
        · rw [e1, e2, iv_w_id (by omega) (by omega)] at g
          exact g ⟨by omega, by omega⟩
    exact lp 489 0 _ (by omega) (by omega) hB0
theorem iv_cz_int {r r' : Option iv_Z} {z : Int} (a : r.map iv_cz = r'.map iv_cz) (h : r' = some (0, z)) : ∃ w, r = some (0, w) := by
  subst h
  cases r with
  | none => cases a
  | some u =>
    obtain ⟨k, w⟩ := u
    have e : iv_cv k w = .int (Int32.ofInt z) := Option.some.inj a
    match k, e with
    | 0, _ => exact ⟨w, rfl⟩
    | 1, e => cases e
    | k + 2, e => cases e
/-- with what its types say -/
theorem br_and3 {d z : Nat} {As : List iv_Z} {P1 : iv_P} {c : se_C} (S : List rl_S) (hS : S.all (fun s => iv_slot s.1 s.2) = true) (hW : S.all (rl_off c.2.2.2) = true) (h1 : iv_C L xs vz d z As μ P1) (h2 : iv_C L xs vz d z As μ (br_P L xs c μ)) : iv_C L xs vz d z As μ (fun r μ' => P1 r μ' ∧ br_J L xs μ' ∧ rl_same S μ μ') :=
  iv_C_and h1 h2 (fun r μ' => br_J L xs μ' ∧ rl_same S μ μ') (fun r m1 r' m2 a1 a2 n1 n2 a3 => by
    obtain ⟨q1, q2, q3⟩ := a3
    exact ⟨by unfold br_J at q1 ⊢; rw [a2]; exact q1, rl_same_m hS a2 n1 n2 (rl_same_of hW q2)⟩)
def tp_C : List rl_S := (182, 1) :: (List.range 160).map (fun k => (183, k))
def tp_R : List rl_S := (195, 6) :: ((List.range 160).map (fun k => (199, k)) ++ ((List.range 59).map (fun k => (200, k)) ++ (List.range 16).map (fun k => (201, k))))
theorem tp_Cs : tp_C.all (fun s => iv_slot s.1 s.2) = true := by decide +kernel
theorem tp_Rs : tp_R.all (fun s => iv_slot s.1 s.2) = true := by decide +kernel
theorem tp_rd {μ' : iv_M} (hs : rl_same tp_C μ μ') (h : rd_B b n μ) : rd_B b n μ' := ⟨(hs (182, 1) List.mem_cons_self).trans h.1, h.2.1, fun k hk => (hs (183, k) (List.mem_cons_of_mem _ (List.mem_map.mpr ⟨k, List.mem_range.mpr (by have := h.2.1; omega), rfl⟩))).trans (h.2.2 k hk)⟩
theorem tp_rr {μ' : iv_M} (hs : rl_same tp_R μ μ') (h : rr_B b n μ) : rr_B b n μ' := ⟨(hs (195, 6) List.mem_cons_self).trans h.1, h.2.1, fun k hk => by
    rw [show μ' 199 (k : Int) = μ 199 (k : Int) from hs (199, k) (List.mem_cons_of_mem _ (List.mem_append.mpr (Or.inl (List.mem_map.mpr ⟨k, List.mem_range.mpr (by have := h.2.1; omega), rfl⟩))))]
    exact h.2.2.1 k hk, fun k hk => (hs (200, k) (List.mem_cons_of_mem _ (List.mem_append.mpr (Or.inr (List.mem_append.mpr (Or.inl (List.mem_map.mpr ⟨k, List.mem_range.mpr hk, rfl⟩))))))).trans (h.2.2.2.1 k hk), fun k hk => (hs (201, k) (List.mem_cons_of_mem _ (List.mem_append.mpr (Or.inr (List.mem_append.mpr (Or.inr (List.mem_map.mpr ⟨k, List.mem_range.mpr hk, rfl⟩))))))).trans (h.2.2.2.2 k hk)⟩
def p23_J (L : Nat) (xs : Nat → Int32) (μ : iv_M) : Prop := br_J L xs μ ∧ ∃ (b : Nat → Int) (n : Nat), rd_B b n μ ∧ rr_B b n μ
theorem p23_keep {μ' : iv_M} (h : p23_J L xs μ) (hJ : br_J L xs μ') (h1 : rl_same tp_C μ μ') (h2 : rl_same tp_R μ μ') : p23_J L xs μ' := by
  obtain ⟨-, b, n, a, c⟩ := h
  exact ⟨hJ, b, n, tp_rd h1 a, tp_rr h2 c⟩
theorem p23_start (h : br_J L xs iv_mu0) : p23_J L xs iv_mu0 := by
  refine ⟨h, fun _ => 0, 0, ⟨by decide +kernel, by decide, fun k hk => absurd hk (Nat.not_lt_zero k)⟩, by decide +kernel, by decide, fun k hk => absurd hk (Nat.not_lt_zero k), fun k hk => ?_, fun k hk => ?_⟩
  · exact of_decide_eq_true (List.all_eq_true.mp (show (List.range 59).all (fun j => decide (iv_mu0 200 (j : Int) = rr_lets.getD j 0)) = true by decide +kernel) k (List.mem_range.mpr hk))
  · exact of_decide_eq_true (List.all_eq_true.mp (show (List.range 16).all (fun j => decide (iv_mu0 201 (j : Int) = rr_begs.getD j 0)) = true by decide +kernel) k (List.mem_range.mpr hk))
end P23A
