/-! ===== the class's reader: tokens ===== -/
/-- the tape: its bytes, how many -/
def rd_B (b : Nat → Int) (n : Nat) (μ : iv_M) : Prop := μ 182 1 = (n : Int) ∧ n ≤ 160 ∧ ∀ k : Nat, k < n → μ 183 (k : Int) = b k
/-- all but what the reader has at hand stays -/
def rd_F0 (μ μ' : iv_M) : Prop := ∀ p k : Int, p ≠ 182 ∨ (k ≠ 3 ∧ k ≠ 4 ∧ k ≠ 5 ∧ k ≠ 6) → μ' p k = μ p k
def rd_A (μ0 μ : iv_M) (a t s v : Int) : Prop := rd_F0 μ0 μ ∧ μ 182 3 = a ∧ μ 182 4 = t ∧ μ 182 5 = s ∧ μ 182 6 = v
theorem rd_A0 (μ : iv_M) : rd_A μ μ (μ 182 3) (μ 182 4) (μ 182 5) (μ 182 6) := ⟨fun _ _ _ => rfl, rfl, rfl, rfl, rfl⟩
theorem rd_F0_tr {μ μ1 μ2 : iv_M} (h : rd_F0 μ μ1) (h2 : rd_F0 μ1 μ2) : rd_F0 μ μ2 := fun p k q => (h2 p k q).trans (h p k q)
theorem rd_F0_B {b : Nat → Int} {n : Nat} {μ μ' : iv_M} (h : rd_F0 μ μ') (hB : rd_B b n μ) : rd_B b n μ' := ⟨(h _ _ (Or.inr (by decide))).trans hB.1, hB.2.1, fun k hk => (h _ _ (Or.inl (by decide))).trans (hB.2.2 k hk)⟩
section RDA
variable {μ0 μ : iv_M} {a t s v : Int}
theorem rd_A3 (h : rd_A μ0 μ a t s v) (x : Int) : rd_A μ0 (iv_upd μ 182 3 x) x t s v := ⟨fun p k q => (iv_upd_ne _ _ (by omega)).trans (h.1 p k q), iv_upd_same _ _ _ _, (iv_upd_ne _ _ (by decide)).trans h.2.2.1, (iv_upd_ne _ _ (by decide)).trans h.2.2.2.1, (iv_upd_ne _ _ (by decide)).trans h.2.2.2.2⟩
theorem rd_A4 (h : rd_A μ0 μ a t s v) (x : Int) : rd_A μ0 (iv_upd μ 182 4 x) a x s v := ⟨fun p k q => (iv_upd_ne _ _ (by omega)).trans (h.1 p k q), (iv_upd_ne _ _ (by decide)).trans h.2.1, iv_upd_same _ _ _ _, (iv_upd_ne _ _ (by decide)).trans h.2.2.2.1, (iv_upd_ne _ _ (by decide)).trans h.2.2.2.2⟩
theorem rd_A5 (h : rd_A μ0 μ a t s v) (x : Int) : rd_A μ0 (iv_upd μ 182 5 x) a t x v := ⟨fun p k q => (iv_upd_ne _ _ (by omega)).trans (h.1 p k q), (iv_upd_ne _ _ (by decide)).trans h.2.1, (iv_upd_ne _ _ (by decide)).trans h.2.2.1, iv_upd_same _ _ _ _, (iv_upd_ne _ _ (by decide)).trans h.2.2.2.2⟩
theorem rd_A6 (h : rd_A μ0 μ a t s v) (x : Int) : rd_A μ0 (iv_upd μ 182 6 x) a t s x := ⟨fun p k q => (iv_upd_ne _ _ (by omega)).trans (h.1 p k q), (iv_upd_ne _ _ (by decide)).trans h.2.1, (iv_upd_ne _ _ (by decide)).trans h.2.2.1, (iv_upd_ne _ _ (by decide)).trans h.2.2.2.1, iv_upd_same _ _ _ _⟩
end RDA
section RDT
variable {L : Nat} {xs : Nat → Int32} {vz : Value} {b : Nat → Int} {n : Nat}
theorem rd_byte {d : Nat} {μ : iv_M} (hL : L ≤ 3072) (hd : 6 ≤ d) (hB : rd_B b n μ) (i : Nat) : iv_C L xs vz d 134 [(10, 182), (0, (i : Int))] μ (fun q μ' => μ' = μ ∧ q = some (0, if i < n then b i else 0)) := by
  obtain ⟨h1, h2, h3⟩ := hB
  refine iv_C_of (sg_134_0 hL hd (by omega) (by omega) (fun h => by exfalso; omega) (fun _ h => ⟨rfl, ?_⟩) (fun _ h => ⟨rfl, ?_⟩))
  · rw [if_neg (by omega)]
  · rw [if_pos (by omega), h3 i (by omega)]
theorem rd_let {d : Nat} {μ : iv_M} (hL : L ≤ 3072) (hd : 6 ≤ d) (x : Int) : iv_C L xs vz d 135 [(0, x)] μ (fun q μ' => μ' = μ ∧ q = some (0, if tk_L x = true then 1 else 0)) := by
  refine iv_C_of (sg_135_0 hL hd (fun h => ⟨rfl, ?_⟩) (fun h g => ⟨rfl, ?_⟩) (fun h g => ⟨rfl, ?_⟩))
  · rw [if_neg (by unfold tk_L; rw [decide_eq_true_eq]; omega)]
  · rw [if_neg (by unfold tk_L; rw [decide_eq_true_eq]; omega)]
  · rw [if_pos (by unfold tk_L; rw [decide_eq_true_eq]; omega)]
theorem rd_dig {d : Nat} {μ : iv_M} (hL : L ≤ 3072) (hd : 6 ≤ d) (x : Int) : iv_C L xs vz d 150 [(0, x)] μ (fun q μ' => μ' = μ ∧ q = some (0, if tk_D x = true then 1 else 0)) := by
  refine iv_C_of (sg_150_0 hL hd (fun h => ⟨rfl, ?_⟩) (fun h g => ⟨rfl, ?_⟩) (fun h g => ⟨rfl, ?_⟩))
  · rw [if_neg (by unfold tk_D; rw [decide_eq_true_eq]; omega)]
  · rw [if_neg (by unfold tk_D; rw [decide_eq_true_eq]; omega)]
  · rw [if_pos (by unfold tk_D; rw [decide_eq_true_eq]; omega)]
theorem rd_sig {d : Nat} {μ : iv_M} (hL : L ≤ 3072) (hd : 6 ≤ d) (x : Int) : iv_C L xs vz d 152 [(0, x)] μ (fun q μ' => μ' = μ ∧ q = some (0, (tk_sg x : Int))) := by
  refine iv_C_of (sg_152_0 hL hd ?_ ?_ ?_ ?_ ?_ ?_ ?_ ?_ ?_ ?_ ?_ ?_ ?_ ?_ ?_ ?_ ?_ ?_ ?_ ?_ ?_ ?_ ?_)
  all_goals first | (intro h; subst h; exact ⟨rfl, rfl⟩) | skip
  intros
  refine ⟨rfl, ?_⟩
  unfold tk_sg
  rw [if_neg (by omega), if_neg (by omega), if_neg (by omega), if_neg (by omega), if_neg (by omega), if_neg (by omega), if_neg (by omega)]
  rfl
-- words
theorem rd_m0 {w : Nat} (hw : w < 15) : (mm_m0 L xs)[w + 21]? = some (.inl (.byte, (tk_words.getD w []).map (fun z => Value.int (Int32.ofInt z)))) := by
  match w, hw with
  | 0, _ => rfl
  | 1, _ => rfl
  | 2, _ => rfl
  | 3, _ => rfl
  | 4, _ => rfl
  | 5, _ => rfl
  | 6, _ => rfl
  | 7, _ => rfl
  | 8, _ => rfl
  | 9, _ => rfl
  | 10, _ => rfl
  | 11, _ => rfl
  | 12, _ => rfl
  | 13, _ => rfl
  | 14, _ => rfl
  | w + 15, hw => exact absurd hw (by omega)
theorem rd_ln {w : Nat} (hw : w < 15) : iv_ln L xs ((w : Int) + 5 + 16) = ((tk_words.getD w []).length : Int) := by
  unfold iv_ln
  rw [show ((w : Int) + 5 + 16).toNat = w + 21 by omega, rd_m0 hw]
  show ((((tk_words.getD w []).map _).length : Nat) : Int) = _
  rw [List.length_map]
theorem rd_sr {w : Nat} (hw : w < 15) {k : Nat} (hk : k < (tk_words.getD w []).length) : iv_sr L xs ((w : Int) + 5 + 16) (k : Int) = (tk_words.getD w []).getD k 0 := by
  unfold iv_sr
  rw [show ((w : Int) + 5 + 16).toNat = w + 21 by omega, rd_m0 hw]
  have hz : ∀ u ∈ tk_words, ∀ z ∈ u, (Int32.ofInt z).toInt = z := by decide
  show (match ((tk_words.getD w []).map _)[((k : Int)).toNat]? with | some v => iv_val v | none => 0) = _
  rw [Int.toNat_natCast, List.getElem?_map, List.getD_eq_getElem?_getD (l := tk_words.getD w [])]
  have hk' : k < (tk_words.getD w []).length := hk
  rw [List.getElem?_eq_getElem hk']
  show (Int32.ofInt _).toInt = _
  have hm : tk_words.getD w [] ∈ tk_words := by
    have : w < tk_words.length := hw
    rw [List.getD_eq_getElem?_getD, List.getElem?_eq_getElem this]
    exact List.getElem_mem _
  exact hz _ hm _ (List.getElem_mem _)
theorem rd_wln {w : Nat} (hw : w < 15) : (tk_words.getD w []).length ≤ 8 := by
  have : ∀ w, w < 15 → (tk_words.getD w []).length ≤ 8 := by decide
  exact this w hw
theorem rd_len {d : Nat} {μ : iv_M} (hL : L ≤ 3072) (hd : 8 ≤ d) {w : Nat} (hw : w < 15) : iv_C L xs vz d 139 [(17, (w : Int) + 5)] μ (fun q μ' => μ' = μ ∧ q = some (0, ((tk_words.getD w []).length : Int))) := by
  refine iv_C_of (sg_139_0 hL (by omega) ?_)
  refine iv_call (want := 1) (y := 139) (pc := 6) (z := 140) (cls := 15) (sa := []) (th := [(17, (w : Int) + 5)]) (r := [(0, _)]) (d' := d - 1) (show iv_cck 1 139 6 140 = true by decide +kernel) (Or.inl ⟨rfl, _, rfl⟩) (show iv_mck 1 140 0 15 1 = true by decide +kernel) (show (1 : Nat) ≤ 8 by decide) (by omega) (iv_C_of (sg_140_0 hL (by omega) ?_))
  refine sg_139_9 hL (by omega) ⟨rfl, ?_⟩
  rw [rd_ln hw]
  have := ib_shr (a := (tk_words.getD w []).length) (i := 0) (by have := rd_wln hw; omega) (by omega)
  rw [show ((0 : Nat) : Int) = 0 from rfl] at this
  rw [this, Nat.shiftRight_zero]
theorem rd_144 {d : Nat} {μ : iv_M} (hv : vz.category = 1) (hd : 13 ≤ d) {x y : Int} (h0 : 0 ≤ x) (h1 : x < y) (h2 : y ≤ 99) : iv_C L xs vz d 144 [(0, x), (0, y)] μ (fun q μ' => μ' = μ ∧ q = none) := by
  intro t ht D hD hA hN
  have ix : (Int32.ofInt x).toInt = x := iv_of32 ⟨by omega, by omega⟩
  have iy : (Int32.ofInt y).toInt = y := iv_of32 ⟨by omega, by omega⟩
  have hm := sm_h0 (ty := fun _ => none) (J := fun m => m = iv_m L xs μ) (kx := 38) (zs := mm_zs vz) (st_hz hv)
  have hρ : se_env (fun _ => none) [Value.int (Int32.ofInt x), Value.int (Int32.ofInt y)] (sc_h0.2.1.1.map Prod.fst) := ⟨rfl, fun k e hk => by
    match k, hk with
    | 0, hk => cases hk; exact ⟨_, rfl, ⟨_, rfl, by rw [ix]; exact h0, by rw [ix]; show x ≤ 99; omega⟩, fun q => absurd rfl q⟩
    | 1, hk => cases hk; exact ⟨_, rfl, ⟨_, rfl, by rw [iy]; show 0 ≤ y; omega, by rw [iy]; exact h2⟩, fun q => absurd rfl q⟩
    | k + 2, hk => simp [sc_h0] at hk⟩
  obtain ⟨n, τ, v, r1, r2, e, he, δ, q1, q2, q3, q4, q5, q6, q7, q8⟩ := hm D t [Value.int (Int32.ofInt x), Value.int (Int32.ofInt y)] [Value.int (Int32.ofInt x), Value.int (Int32.ofInt y)] (iv_m L xs μ) (by show 13 * 1 ≤ D; omega) ht hρ (fun i v hi => by
    match i, hi with
    | 0, hi => cases hi; exact ⟨_, rfl, se_v_one rfl⟩
    | 1, hi => cases hi; exact ⟨_, rfl, se_v_one rfl⟩
    | i + 2, hi => simp [sc_h0] at hi) (fun e he => by cases he) (fun e he => by
    cases List.mem_singleton.mp he
    refine ⟨Int32.ofInt x, Int32.ofInt y, se_v_one rfl, se_v_one rfl, ?_⟩
    show decide _ = true
    rw [decide_eq_true_eq, Int32.lt_iff_toInt_lt, ix, iy]
    exact h1) (fun p t h => by cases h) rfl
  cases List.mem_singleton.mp he
  refine ⟨n, τ, r1, none, μ, ?_, q7, hN, (fun v h => by cases h), rfl, rfl⟩
  rw [r2, q4 rfl]
  rfl
theorem rd_chr {d : Nat} {μ : iv_M} (hL : L ≤ 3072) (hv : vz.category = 1) (hd : 30 ≤ d) {w : Nat} (hw : w < 15) {k : Nat} (hk : k < (tk_words.getD w []).length) : iv_C L xs vz d 141 [(17, (w : Int) + 5), (0, (k : Int))] μ (fun q μ' => μ' = μ ∧ q = some (0, (tk_words.getD w []).getD k 0)) := by
  have hz : ∀ w : Nat, w < 15 → ∀ k : Nat, k < 8 → iv_i2c (iv_and ((tk_words.getD w []).getD k 0) 255) = (tk_words.getD w []).getD k 0 ∧ 0 ≤ (tk_words.getD w []).getD k 0 ∧ (tk_words.getD w []).getD k 0 < 65536 := by decide +kernel
  have h8 := rd_wln hw
  obtain ⟨z1, z2, z3⟩ := hz w hw k (by omega)
  refine iv_C_of (sg_141_0 hL (by omega) ?_)
  refine iv_call (want := 1) (y := 141) (pc := 1) (z := 142) (cls := 15) (sa := []) (th := [(17, (w : Int) + 5)]) (r := []) (d' := d - 1) (show iv_cck 1 141 1 142 = true by decide +kernel) (Or.inl ⟨rfl, _, rfl⟩) (show iv_mck 1 142 0 15 1 = true by decide +kernel) (show (0 : Nat) ≤ 8 by decide) (by omega) (iv_C_of (sg_142_0 hL (by omega) ?_))
  refine sg_141_4 hL (by omega) (fun h => by cases h) (fun _ => ?_)
  refine iv_call (want := 0) (y := 141) (pc := 12) (z := 143) (cls := 0) (sa := [(0, (k : Int)), (19, (w : Int) + 5 + 16)]) (th := []) (r := []) (d' := d - 1) (show iv_cck 0 141 12 143 = true by decide +kernel) (Or.inr ⟨rfl, rfl⟩) (show iv_mck 0 143 2 0 2 = true by decide +kernel) (show (0 : Nat) ≤ 8 by decide) (by omega) (iv_C_of (sg_143_0 hL (by omega) ?_))
  rw [rd_ln hw]
  refine iv_call (want := 0) (y := 143) (pc := 3) (z := 144) (cls := 0) (sa := [(0, ((tk_words.getD w []).length : Int)), (0, (k : Int))]) (th := []) (r := []) (d' := d - 2) (show iv_cck 0 143 3 144 = true by decide +kernel) (Or.inr ⟨rfl, rfl⟩) (show iv_mck 0 144 2 0 2 = true by decide +kernel) (show (0 : Nat) ≤ 8 by decide) (by omega) (iv_C_mono (rd_144 hv (by omega) (by omega) (by omega) (by omega)) (fun q μ' hq => ?_))
  obtain ⟨rfl, rfl⟩ := hq
  refine sg_143_6 hL (by omega) (fun _ h => ?_) (fun _ h => ?_) (fun h => ?_)
  · rw [rd_sr hw hk, z1]
    exact sg_141_15 hL (by omega) (fun _ => ⟨rfl, rfl⟩) (fun h => by omega)
  · rw [rd_sr hw hk, z1] at h
    exact h ⟨z2, z3⟩
  · rw [rd_ln hw] at h
    omega
theorem rd_std {d : Nat} {μ : iv_M} (hL : L ≤ 3072) (hv : vz.category = 1) (hd : 40 ≤ d) (hB : rd_B b n μ) {w s e : Nat} (hw : w < 15) (hse : s ≤ e) (hen : e ≤ n) (h3 : μ 182 3 = (e : Int)) (h5 : μ 182 5 = (s : Int)) : iv_C L xs vz d 138 [(10, 182), (17, (w : Int) + 5)] μ (fun q μ' => μ' = μ ∧ ((q = some (0, 1) ∧ tk_is b s (e - s) w) ∨ (q = some (0, 0) ∧ ¬ tk_is b s (e - s) w))) := by
  have hn := hB.2.1
  have h8 := rd_wln hw
  have hwl : tk_words[w]? = some (tk_words.getD w []) := by
    have : w < tk_words.length := hw
    rw [List.getD_eq_getElem?_getD, List.getElem?_eq_getElem this]
    rfl
  have lp : ∀ (m k : Nat), (tk_words.getD w []).length ≤ k + m → (tk_words.getD w []).length = e - s → k ≤ (tk_words.getD w []).length → (∀ j : Nat, j < k → b (s + j) = (tk_words.getD w []).getD j 0) → iv_G L xs vz d 138 20 [some (10, 182), some (17, (w : Int) + 5), some (0, (k : Int))] [] μ (fun q μ' => μ' = μ ∧ ((q = some (0, 1) ∧ tk_is b s (e - s) w) ∨ (q = some (0, 0) ∧ ¬ tk_is b s (e - s) w))) := by
    intro m
    induction m with
    | zero =>
      intro k h1 h2 h2b hk
      refine sg_138_20 hL (by omega) (by omega) ?_
      refine iv_call (want := 1) (y := 138) (pc := 22) (z := 139) (cls := 15) (sa := []) (th := [(17, (w : Int) + 5)]) (r := [(0, (k : Int))]) (d' := d - 1) (show iv_cck 1 138 22 139 = true by decide +kernel) (Or.inl ⟨rfl, _, rfl⟩) (show iv_mck 1 139 0 15 1 = true by decide +kernel) (show (1 : Nat) ≤ 8 by decide) (by omega) (iv_C_mono (rd_len hL (by omega) hw) (fun q μ' hq => ?_))
      obtain ⟨rfl, rfl⟩ := hq
      refine sg_138_25 hL (by omega) (by have := hB.1; omega) (by have := hB.1; omega) (fun _ => ⟨rfl, Or.inl ⟨rfl, _, hwl, h2, fun j hj => hk j (by omega)⟩⟩) (fun q => by exfalso; omega) (fun q => by exfalso; omega) (fun q => by exfalso; omega)
    | succ m ih =>
      intro k h1 h2 h2b hk
      refine sg_138_20 hL (by omega) (by omega) ?_
      refine iv_call (want := 1) (y := 138) (pc := 22) (z := 139) (cls := 15) (sa := []) (th := [(17, (w : Int) + 5)]) (r := [(0, (k : Int))]) (d' := d - 1) (show iv_cck 1 138 22 139 = true by decide +kernel) (Or.inl ⟨rfl, _, rfl⟩) (show iv_mck 1 139 0 15 1 = true by decide +kernel) (show (1 : Nat) ≤ 8 by decide) (by omega) (iv_C_mono (rd_len hL (by omega) hw) (fun q μ' hq => ?_))
      obtain ⟨rfl, rfl⟩ := hq
      have ew : iv_w ((s : Int) + (k : Int)) = ((s + k : Nat) : Int) := by rw [iv_w_id (by omega) (by omega)]; omega
      have next : k < (tk_words.getD w []).length → iv_G L xs vz d 138 40 [some (10, 182), some (17, (w : Int) + 5), some (0, (k : Int))] [(0, (k : Int)), (17, (w : Int) + 5), (0, b (s + k))] μ' (fun q μ'' => μ'' = μ' ∧ ((q = some (0, 1) ∧ tk_is b s (e - s) w) ∨ (q = some (0, 0) ∧ ¬ tk_is b s (e - s) w))) := fun hlt => by
        refine iv_call (want := 1) (y := 138) (pc := 40) (z := 141) (cls := 15) (sa := [(0, (k : Int))]) (th := [(17, (w : Int) + 5)]) (r := [(0, b (s + k))]) (d' := d - 1) (show iv_cck 1 138 40 141 = true by decide +kernel) (Or.inl ⟨rfl, _, rfl⟩) (show iv_mck 1 141 1 15 2 = true by decide +kernel) (show (1 : Nat) ≤ 8 by decide) (by omega) (iv_C_mono (rd_chr hL hv (by omega) hw hlt) (fun q μ2 hq => ?_))
        obtain ⟨rfl, rfl⟩ := hq
        refine sg_138_43 hL (by omega) (fun q => ?_) (fun q => ?_)
        · rw [show iv_w ((k : Int) + 1) = ((k + 1 : Nat) : Int) by rw [iv_w_id (by omega) (by omega)]; omega]
          refine ih (k + 1) (by omega) h2 (by omega) (fun j hj => ?_)
          by_cases ej : j = k
          · rw [ej]; exact q
          · exact hk j (by omega)
        · refine ⟨rfl, Or.inr ⟨rfl, ?_⟩⟩
          rintro ⟨u, g1, g2, g3⟩
          rw [hwl] at g1
          cases g1
          exact q (g3 k (by omega))
      refine sg_138_25 hL (by omega) (by have := hB.1; omega) (by have := hB.1; omega) (fun q => ⟨rfl, Or.inl ⟨rfl, _, hwl, h2, fun j hj => hk j (by omega)⟩⟩) (fun q g => by rw [h5, ew] at g; exfalso; omega) (fun q _ g => by rw [h5, ew, hB.1] at g; exfalso; omega) (fun q _ g => ?_)
      rw [h5, ew, hB.2.2 _ (by omega)]
      exact next (by omega)
  refine iv_C_of (sg_138_0 hL (by omega) ?_)
  refine iv_call (want := 1) (y := 138) (pc := 10) (z := 139) (cls := 15) (sa := []) (th := [(17, (w : Int) + 5)]) (r := [(0, _)]) (d' := d - 1) (show iv_cck 1 138 10 139 = true by decide +kernel) (Or.inl ⟨rfl, _, rfl⟩) (show iv_mck 1 139 0 15 1 = true by decide +kernel) (show (1 : Nat) ≤ 8 by decide) (by omega) (iv_C_mono (rd_len hL (by omega) hw) (fun q μ' hq => ?_))
  obtain ⟨rfl, rfl⟩ := hq
  have ew : iv_w ((e : Int) - (s : Int)) = ((e - s : Nat) : Int) := by rw [iv_w_id (by omega) (by omega)]; omega
  refine sg_138_13 hL (by omega) (fun q => ?_) (fun q => ?_)
  · rw [h3, h5, ew] at q
    exact lp (tk_words.getD w []).length 0 (by omega) (by omega) (by omega) (fun j hj => absurd hj (Nat.not_lt_zero j))
  · rw [h3, h5, ew] at q
    refine ⟨rfl, Or.inr ⟨rfl, ?_⟩⟩
    rintro ⟨u, g1, g2, g3⟩
    rw [hwl] at g1
    cases g1
    omega
end RDT
