/-! ===== the reference's reader: what waits, the code ===== -/
theorem mc_st_len {r : Nat} : ∀ (W : List Nat) (c : List Int), (mc_st r W c).1.length + (mc_st r W c).2.length = W.length + c.length
  | [], c => rfl
  | t :: W, c => by
    by_cases q : r ≤ mc_rk t
    · rw [mc_st_cons q, mc_st_len W, List.length_append]
      show W.length + (c.length + 1) = W.length + 1 + c.length
      omega
    · have e : mc_st r (t :: W) c = (t :: W, c) := by
        show (if _ then _ else _) = _
        rw [if_neg q]
      rw [e]
theorem mc_st_op {r : Nat} (hr : 1 ≤ r) : ∀ (W : List Nat) (c : List Int), mc_op (mc_st r W c).1 = mc_op W
  | [], c => rfl
  | t :: W, c => by
    by_cases q : r ≤ mc_rk t
    · have h16 : t ≠ 16 := fun e => by
        rw [e] at q
        have : r ≤ 0 := q
        omega
      rw [mc_st_cons q, mc_st_op hr W, mc_op_cons h16]
    · have e : mc_st r (t :: W) c = (t :: W, c) := by
        show (if _ then _ else _) = _
        rw [if_neg q]
      rw [e]
theorem mc_rk5 (t : Nat) : mc_rk t ≤ 5 := by
  unfold mc_rk
  repeat' split
  all_goals omega
theorem mc_rk9 {t : Nat} (h : 0 < mc_rk t) : 12 ≤ t ∧ t ≤ 22 := by
  unfold mc_rk at h
  repeat' (split at h)
  all_goals omega
theorem mc_dp_eq : ∀ W : List Nat, mc_dp W = mc_op W + W.countP (fun t => Nat.beq t 14)
  | [] => rfl
  | t :: W => by
    have ih := mc_dp_eq W
    by_cases h : t = 16
    · subst h
      rw [mc_dp_in (Or.inl rfl), mc_op_16, List.countP_cons_of_neg (by decide), ih]
      omega
    · by_cases h2 : t = 14
      · subst h2
        rw [mc_dp_in (Or.inr rfl), mc_op_cons (by decide), List.countP_cons_of_pos (by decide), ih]
        omega
      · rw [mc_dp_cons h h2, mc_op_cons h, List.countP_cons_of_neg (by simp [h2]), ih]
/-- the reference's code of the class's -/
def rr_c (z : Int) : Int := if -9 ≤ z then z else -100 - rr_f (-1 - z).toNat
theorem rr_c_op {t : Nat} (h : 9 ≤ t) : rr_c (-1 - (t : Int)) = -100 - rr_f t := by
  unfold rr_c
  rw [if_neg (by omega), show (-1 - (-1 - (t : Int))).toNat = t by omega]
theorem rr_c_id {z : Int} (h : -9 ≤ z) : rr_c z = z := by
  unfold rr_c
  rw [if_pos h]
theorem tk_nv_rg {b : Nat → Int} {s : Nat} : ∀ k : Nat, k ≤ 4 → (∀ j, j < k → tk_D (b (s + j)) = true) → 0 ≤ tk_nv b s k ∧ tk_nv b s k + 1 ≤ ((10 ^ k : Nat) : Int)
  | 0, _, _ => ⟨by show (0 : Int) ≤ 0; decide, by show (0 : Int) + 1 ≤ ((10 ^ 0 : Nat) : Int); decide⟩
  | k + 1, hk, h => by
    obtain ⟨a, c⟩ := tk_nv_rg k (by omega) (fun j hj => h j (by omega))
    have hd := h k (by omega)
    unfold tk_D at hd
    rw [decide_eq_true_eq] at hd
    have hp : (10 ^ k : Nat) ≤ 10 ^ 3 := Nat.pow_le_pow_right (by decide) (by omega)
    have hp2 : (10 ^ (k + 1) : Nat) = 10 ^ k * 10 := Nat.pow_succ 10 k
    have hp : (10 ^ k : Nat) ≤ 1000 := hp
    generalize (10 ^ k : Nat) = P at c hp hp2
    rw [hp2]
    unfold tk_nv
    rw [iv_w_id (x := tk_nv b s k * 10) (by omega) (by omega), iv_w_id (x := tk_nv b s k * 10 + b (s + k)) (by omega) (by omega), iv_w_id (by omega) (by omega)]
    omega
theorem tk_v_rg {b : Nat → Int} {n i : Nat} (h : tk_t b n i 15) : 0 ≤ tk_v b n i ∧ tk_v b n i ≤ 9999 := by
  unfold tk_t at h
  split at h
  · cases h
  · next q1 =>
    split at h
    · rcases h with ⟨a, -⟩ | ⟨a, -⟩ <;> omega
    · next q2 =>
      split at h
      · next q3 =>
        have ee : tk_e b n i = tk_rn n (fun k => tk_D (b k)) (tk_s b n i) := by
          unfold tk_e
          rw [if_neg q1, if_neg q2, if_pos q3]
        have hbd := tk_rn_bd (n := n) (p := fun k => tk_D (b k)) _ (tk_s b n i) rfl
        have h4 : tk_e b n i - tk_s b n i ≤ 4 := by
          by_cases q : tk_e b n i - tk_s b n i ≤ 4
          · exact q
          · rw [if_neg q] at h; cases h
        obtain ⟨a, c⟩ := tk_nv_rg (b := b) (s := tk_s b n i) (tk_e b n i - tk_s b n i) h4 (fun j hj => hbd.2.2.2 (tk_s b n i + j) (by omega) (by rw [← ee]; omega))
        have hp : (10 ^ (tk_e b n i - tk_s b n i) : Nat) ≤ 10 ^ 4 := Nat.pow_le_pow_right (by decide) h4
        have hp : (10 ^ (tk_e b n i - tk_s b n i) : Nat) ≤ 10000 := hp
        unfold tk_v
        omega
      · unfold tk_sg at h
        repeat' (split at h)
        all_goals omega
def rr_M (W : List Nat) (c : List Int) (base : Nat) (μ : iv_M) : Prop := μ 195 17 = (W.length : Int) ∧ (∀ k : Nat, k < W.length → μ 203 (k : Int) = rr_f (W.reverse.getD k 0)) ∧ μ 195 16 = ((base + 1 + c.length : Nat) : Int) ∧ (∀ k : Nat, k < c.length → μ 202 ((base + 1 + k : Nat) : Int) = rr_c (c.getD k 0))
def rr_FM (base : Nat) (μ μ' : iv_M) : Prop := ∀ p k : Int, p ≠ 195 ∨ (k ≠ 16 ∧ k ≠ 17) → p ≠ 203 → p ≠ 202 ∨ k < (base : Int) → μ' p k = μ p k
def rr_F (base : Nat) (μ μ' : iv_M) : Prop := ∀ p k : Int, p ≠ 195 ∨ (k < 12 ∨ 17 < k) → p ≠ 203 → p ≠ 202 ∨ k < (base : Int) → μ' p k = μ p k
theorem rr_FM_rfl (base : Nat) (μ : iv_M) : rr_FM base μ μ := fun _ _ _ _ _ => rfl
theorem rr_FM_tr {base : Nat} {μ μ1 μ2 : iv_M} (h : rr_FM base μ μ1) (h2 : rr_FM base μ1 μ2) : rr_FM base μ μ2 := fun p k a b c => (h2 p k a b c).trans (h p k a b c)
theorem rr_F_tr {base : Nat} {μ μ1 μ2 : iv_M} (h : rr_F base μ μ1) (h2 : rr_F base μ1 μ2) : rr_F base μ μ2 := fun p k a b c => (h2 p k a b c).trans (h p k a b c)
theorem rr_F_M {base : Nat} {μ μ1 : iv_M} (h : rr_FM base μ μ1) : rr_F base μ μ1 := fun p k a b c => h p k (by omega) b c
theorem rr_F_0 {base : Nat} {μ μ1 : iv_M} (h : rr_F0 μ μ1) : rr_F base μ μ1 := fun p k a _ _ => h p k (by omega)
theorem rr_B_M {b : Nat → Int} {n base : Nat} {μ μ1 : iv_M} (h : rr_FM base μ μ1) (hB : rr_B b n μ) : rr_B b n μ1 := ⟨(h _ _ (Or.inr (by decide)) (by decide) (Or.inl (by decide))).trans hB.1, hB.2.1, fun k hk => by rw [h _ _ (Or.inl (by decide)) (by decide) (Or.inl (by decide))]; exact hB.2.2.1 k hk, fun k hk => (h _ _ (Or.inl (by decide)) (by decide) (Or.inl (by decide))).trans (hB.2.2.2.1 k hk), fun k hk => (h _ _ (Or.inl (by decide)) (by decide) (Or.inl (by decide))).trans (hB.2.2.2.2 k hk)⟩
theorem rr_T_M {b : Nat → Int} {n base i t : Nat} {μ μ1 : iv_M} (h : rr_FM base μ μ1) (hT : rr_T b n μ i t) : rr_T b n μ1 i t := by
  obtain ⟨hB, hi, ht, e1, e2, e3, e4⟩ := hT
  have f : ∀ k : Int, k ≠ 16 ∧ k ≠ 17 → μ1 195 k = μ 195 k := fun k hk => h _ _ (Or.inr hk) (by decide) (Or.inl (by decide))
  exact ⟨rr_B_M h hB, hi, ht, (f _ (by decide)).trans e1, (f _ (by decide)).trans e2, (f _ (by decide)).trans e3, fun q => (f _ (by decide)).trans (e4 q)⟩
theorem rr_M_0 {W : List Nat} {c : List Int} {base : Nat} {μ μ1 : iv_M} (h : rr_F0 μ μ1) (hM : rr_M W c base μ) : rr_M W c base μ1 := ⟨(h _ _ (Or.inr (by decide))).trans hM.1, fun k hk => (h _ _ (Or.inl (by decide))).trans (hM.2.1 k hk), (h _ _ (Or.inr (by decide))).trans hM.2.2.1, fun k hk => (h _ _ (Or.inl (by decide))).trans (hM.2.2.2 k hk)⟩
theorem rr_rev (t : Nat) (V : List Nat) (k : Nat) : (t :: V).reverse.getD k 0 = if k < V.length then V.reverse.getD k 0 else if k = V.length then t else 0 := by
  rw [List.reverse_cons, List.getD_eq_getElem?_getD, List.getD_eq_getElem?_getD]
  split
  · rw [List.getElem?_append_left (by rw [List.length_reverse]; assumption)]
  · next q =>
    rw [List.getElem?_append_right (by rw [List.length_reverse]; omega), List.length_reverse]
    split
    · next e => rw [e, Nat.sub_self]; rfl
    · rw [List.getElem?_eq_none (by show 1 ≤ _; omega)]
      rfl
theorem rr_M_top {t : Nat} {V : List Nat} {c : List Int} {base : Nat} {μ : iv_M} (h : rr_M (t :: V) c base μ) : μ 203 (V.length : Int) = rr_f t := by
  rw [h.2.1 V.length (Nat.lt_succ_self _), rr_rev, if_neg (Nat.lt_irrefl _), if_pos rfl]
theorem rr_M_pop {t : Nat} {V : List Nat} {c : List Int} {base : Nat} {μ : iv_M} (h : rr_M (t :: V) c base μ) (hl : V.length + 1 ≤ 160) : rr_M V c base (iv_upd μ 195 17 (iv_w ((μ 195 17) - 1))) ∧ iv_w ((μ 195 17) - 1) = (V.length : Int) := by
  have e1 : μ 195 17 = ((V.length + 1 : Nat) : Int) := h.1
  have e : iv_w ((μ 195 17) - 1) = (V.length : Int) := by
    rw [e1, iv_w_id (by omega) (by omega)]
    omega
  refine ⟨⟨by rw [iv_upd_same, e], fun k hk => ?_, ?_, fun k hk => ?_⟩, e⟩
  · rw [iv_upd_ne _ _ (Or.inl (by decide)), h.2.1 k (by show k < V.length + 1; omega), rr_rev, if_pos hk]
  · rw [iv_upd_ne _ _ (Or.inr (by decide))]
    exact h.2.2.1
  · rw [iv_upd_ne _ _ (Or.inl (by decide))]
    exact h.2.2.2 k hk
theorem rr_M_push {t : Nat} {W : List Nat} {c : List Int} {base : Nat} {μ : iv_M} (h : rr_M W c base μ) (hW : W.length ≤ 160) {x : Int} (hx : x = rr_f t) : rr_M (t :: W) c base (iv_upd (iv_upd μ 203 (μ 195 17) x) 195 17 (iv_w (((iv_upd μ 203 (μ 195 17) x) 195 17) + 1))) := by
  refine ⟨?_, fun k hk => ?_, ?_, fun k hk => ?_⟩
  · rw [iv_upd_same, iv_upd_ne _ _ (Or.inl (by decide)), h.1, iv_w_id (by omega) (by omega)]
    show (W.length : Int) + 1 = ((W.length + 1 : Nat) : Int)
    omega
  · have hk : k < W.length + 1 := hk
    rw [iv_upd_ne _ _ (Or.inl (by decide)), h.1, rr_rev]
    by_cases e : k = W.length
    · subst e
      rw [iv_upd_same, if_neg (Nat.lt_irrefl _), if_pos rfl, hx]
    · rw [iv_upd_ne _ _ (Or.inr (by omega)), if_pos (by omega)]
      exact h.2.1 k (by omega)
  · rw [iv_upd_ne _ _ (Or.inr (by decide)), iv_upd_ne _ _ (Or.inl (by decide))]
    exact h.2.2.1
  · rw [iv_upd_ne _ _ (Or.inl (by decide)), iv_upd_ne _ _ (Or.inl (by decide))]
    exact h.2.2.2 k hk
theorem rr_M_lay {W : List Nat} {c : List Int} {base : Nat} {μ : iv_M} (h : rr_M W c base μ) (hb : base + c.length ≤ 1000) {x z : Int} (hx : x = rr_c z) : rr_M W (c ++ [z]) base (iv_upd (iv_upd μ 202 (μ 195 16) x) 195 16 (iv_w (((iv_upd μ 202 (μ 195 16) x) 195 16) + 1))) := by
  refine ⟨?_, fun k hk => ?_, ?_, fun k hk => ?_⟩
  · rw [iv_upd_ne _ _ (Or.inr (by decide)), iv_upd_ne _ _ (Or.inl (by decide))]
    exact h.1
  · rw [iv_upd_ne _ _ (Or.inl (by decide)), iv_upd_ne _ _ (Or.inl (by decide))]
    exact h.2.1 k hk
  · rw [iv_upd_same, iv_upd_ne _ _ (Or.inl (by decide)), h.2.2.1, iv_w_id (by omega) (by omega), List.length_append]
    show ((base + 1 + c.length : Nat) : Int) + 1 = ((base + 1 + (c.length + 1) : Nat) : Int)
    omega
  · rw [List.length_append] at hk
    have hk : k < c.length + 1 := hk
    rw [iv_upd_ne _ _ (Or.inl (by decide)), h.2.2.1]
    by_cases e : k = c.length
    · subst e
      rw [iv_upd_same, hx]
      simp [List.getD_eq_getElem?_getD]
    · rw [iv_upd_ne _ _ (Or.inr (by omega)), h.2.2.2 k (by omega), List.getD_eq_getElem?_getD, List.getD_eq_getElem?_getD, List.getElem?_append_left (by omega)]
section RRM
variable {L : Nat} {xs : Nat → Int32} {vz : Value} {b : Nat → Int} {n : Nat}
theorem rr_rank {d : Nat} {μ : iv_M} (hL : L ≤ 3072) (hd : 6 ≤ d) (t : Nat) : iv_C L xs vz d 299 [(0, rr_f t)] μ (fun q μ' => μ' = μ ∧ q = some (0, (mc_rk t : Int))) := by
  have hf := rr_fc t
  have hr : ∀ x : Nat, mc_rk t = x → (some ((0 : Nat), (x : Int)) : Option iv_Z) = some (0, (mc_rk t : Int)) := fun x h => by rw [h]
  refine iv_C_of (sg_299_0 hL hd (fun _ _ _ _ => ⟨rfl, hr 4 ?_⟩) (fun _ _ _ _ _ _ => ⟨rfl, hr 5 ?_⟩) (fun _ _ _ _ _ _ _ => ⟨rfl, hr 0 ?_⟩) (fun _ _ _ _ _ _ _ => ⟨rfl, hr 5 ?_⟩) (fun _ _ _ _ _ => ⟨rfl, hr 4 ?_⟩) (fun _ _ _ => ⟨rfl, hr 3 ?_⟩) (fun _ _ => ⟨rfl, hr 2 ?_⟩) (fun _ => ⟨rfl, hr 1 ?_⟩))
  · have : t = 21 := by omega
    rw [this]; rfl
  · have : t = 19 := by omega
    rw [this]; rfl
  · unfold mc_rk
    rw [if_neg (by omega), if_neg (by omega), if_neg (by omega), if_neg (by omega), if_neg (by omega)]
  · have : t = 20 := by omega
    rw [this]; rfl
  · have : t = 22 := by omega
    rw [this]; rfl
  · have : t = 14 := by omega
    rw [this]; rfl
  · have : t = 13 := by omega
    rw [this]; rfl
  · have : t = 12 := by omega
    rw [this]; rfl
theorem rr_wait {d : Nat} {μ : iv_M} {W : List Nat} {c : List Int} {base : Nat} (hL : L ≤ 3072) (hd : 6 ≤ d) (hM : rr_M W c base μ) (hW : W.length ≤ 160) (u : Nat) (hu : ∀ t, rr_f t = rr_f u → t = u) : iv_C L xs vz d 296 [(14, 195), (0, rr_f u)] μ (fun q μ' => μ' = μ ∧ q = some (0, (W.countP (fun t => Nat.beq t u) : Int))) := by
  have h1 := hM.1
  have hrev : W.countP (fun t => Nat.beq t u) = (W.reverse.take W.length).countP (fun t => Nat.beq t u) := by
    rw [← List.length_reverse, List.take_length, List.countP_reverse]
  have lp : ∀ (m k : Nat), W.length ≤ k + m → k ≤ W.length → iv_G L xs vz d 296 4 [some (14, 195), some (0, rr_f u), some (0, (((W.reverse.take k).countP (fun t => Nat.beq t u) : Nat) : Int)), some (0, (k : Int))] [] μ (fun q μ' => μ' = μ ∧ q = some (0, (W.countP (fun t => Nat.beq t u) : Int))) := by
    intro m
    have fin : ∀ k : Nat, (k : Int) ≥ μ 195 17 → k ≤ W.length → μ = μ ∧ (some (0, (((W.reverse.take k).countP (fun t => Nat.beq t u) : Nat) : Int)) : Option iv_Z) = some (0, (W.countP (fun t => Nat.beq t u) : Int)) := fun k h2 h3 => ⟨rfl, by rw [hrev, show k = W.length by omega]⟩
    induction m with
    | zero =>
      intro k h2 h3
      exact sg_296_4 hL hd (by omega) (fun q => fin k q h3) (fun q => by exfalso; omega) (fun q => by exfalso; omega) (fun q => by exfalso; omega)
    | succ m ih =>
      intro k h2 h3
      have hle : (W.reverse.take k).countP (fun t => Nat.beq t u) ≤ k := by
        refine Nat.le_trans List.countP_le_length ?_
        rw [List.length_take]
        omega
      have key : k < W.length → W.reverse.take (k + 1) = W.reverse.take k ++ [W.reverse.getD k 0] := fun hk => by
        have hk2 : k < W.reverse.length := by rw [List.length_reverse]; exact hk
        rw [List.take_add_one, List.getElem?_eq_getElem hk2, List.getD_eq_getElem?_getD, List.getElem?_eq_getElem hk2]
        rfl
      refine sg_296_4 hL hd (by omega) (fun q => fin k q h3) (fun q _ g => ?_) (fun q _ g => ?_) (fun q g => g ⟨by omega, by omega⟩)
      · have hk : k < W.length := by omega
        rw [hM.2.1 k hk] at g
        have := ih (k + 1) (by omega) (by omega)
        rw [key hk, List.countP_append, List.countP_singleton, if_neg (fun e => g (by rw [Nat.eq_of_beq_eq_true e]))] at this
        rw [iv_w_id (by omega) (by omega)]
        exact this
      · have hk : k < W.length := by omega
        rw [hM.2.1 k hk] at g
        have := ih (k + 1) (by omega) (by omega)
        rw [key hk, List.countP_append, List.countP_singleton, if_pos (by rw [hu _ g]; exact Nat.beq_refl u)] at this
        rw [iv_w_id (by omega) (by omega)]
        exact this
  refine iv_C_of (sg_296_0 hL hd (lp W.length 0 (by omega) (by omega)))
theorem rr_lays {d : Nat} {μ : iv_M} {W : List Nat} {c : List Int} {base : Nat} (hL : L ≤ 3072) (hd : 6 ≤ d) (hM : rr_M W c base μ) (hb : base + c.length ≤ 487) {x z : Int} (hx : x = rr_c z) : iv_C L xs vz d 297 [(14, 195), (0, x)] μ (fun q μ' => q = none ∧ rr_FM base μ μ' ∧ rr_M W (c ++ [z]) base μ') := by
  have e := hM.2.2.1
  refine iv_C_of (sg_297_0 hL hd (fun _ => ⟨rfl, fun p k a b' c' => ?_, rr_M_lay hM (by omega) hx⟩) (fun g => g ⟨by omega, by omega⟩))
  rw [iv_upd_ne _ _ (by omega), iv_upd_ne _ _ (by omega)]
theorem rr_sett {d : Nat} {r base : Nat} (hL : L ≤ 3072) (hd : 10 ≤ d) (hr : 1 ≤ r) (hb : base ≤ 326) : ∀ (W : List Nat) (c : List Int) (μ : iv_M), rr_M W c base μ → c.length + W.length ≤ 160 → iv_C L xs vz d 298 [(14, 195), (0, (r : Int))] μ (fun q μ' => q = none ∧ rr_FM base μ μ' ∧ rr_M (mc_st r W c).1 (mc_st r W c).2 base μ') := by
  suffices h : ∀ (W : List Nat) (c : List Int) (μ0 μ : iv_M), rr_FM base μ0 μ → rr_M W c base μ → c.length + W.length ≤ 160 → iv_G L xs vz d 298 0 [some (14, 195), some (0, (r : Int))] [] μ (fun q μ' => q = none ∧ rr_FM base μ0 μ' ∧ rr_M (mc_st r W c).1 (mc_st r W c).2 base μ') from fun W c μ hM hl => iv_C_of (h W c μ μ (rr_FM_rfl _ _) hM hl)
  intro W
  induction W with
  | nil =>
    intro c μ0 μ hF hM hl
    have h1 : μ 195 17 = 0 := hM.1
    exact sg_298_0 hL (by omega) (fun _ => ⟨rfl, hF, hM⟩) (fun q => by exfalso; omega) (fun q => by exfalso; omega)
  | cons t V ih =>
    intro c μ0 μ hF hM hl
    have hl : c.length + (V.length + 1) ≤ 160 := hl
    have h1 : μ 195 17 = ((V.length + 1 : Nat) : Int) := hM.1
    obtain ⟨hM2, e⟩ := rr_M_pop hM (by omega)
    have htop := rr_M_top hM
    refine sg_298_0 hL (by omega) (fun q => by exfalso; omega) (fun _ _ => ?_) (fun _ g => g ⟨by omega, by omega⟩)
    rw [e, htop]
    refine iv_call (want := 0) (y := 298) (pc := 18) (z := 299) (cls := 0) (sa := [(0, rr_f t)]) (th := []) (r := []) (d' := d - 1) (show iv_cck 0 298 18 299 = true by decide +kernel) (Or.inr ⟨rfl, rfl⟩) (show iv_mck 0 299 1 0 1 = true by decide +kernel) (show (0 : Nat) ≤ 8 by decide) (by omega) (iv_C_mono (rr_rank hL (by omega) t) (fun q μ' hq => ?_))
    obtain ⟨rfl, rfl⟩ := hq
    refine sg_298_21 hL (by omega) (fun q => ⟨rfl, hF, ?_⟩) (fun q _ => ?_) (fun _ g => ?_)
    · have es : mc_st r (t :: V) c = (t :: V, c) := by
        show (if _ then _ else _) = _
        rw [if_neg (by omega)]
      rw [es]
      exact hM
    · have h9 := mc_rk9 (t := t) (by omega)
      have hf := rr_fc t
      rw [iv_upd_same, e, iv_upd_ne _ _ (Or.inl (by decide)), htop, iv_w_id (by omega) (by omega)]
      rw [e] at hM2
      refine iv_call (want := 1) (y := 298) (pc := 48) (z := 297) (cls := 12) (sa := [(0, -100 - rr_f t)]) (th := [(14, 195)]) (r := []) (d' := d - 1) (show iv_cck 1 298 48 297 = true by decide +kernel) (Or.inl ⟨rfl, _, rfl⟩) (show iv_mck 1 297 1 12 2 = true by decide +kernel) (show (0 : Nat) ≤ 8 by decide) (by omega) (iv_C_mono (rr_lays hL (by omega) hM2 (by omega) (rr_c_op (t := t) (by omega)).symm) (fun q μ2 hq => ?_))
      obtain ⟨rfl, hF2, hM3⟩ := hq
      refine sg_298_51 hL (by omega) ?_
      rw [mc_st_cons (by omega)]
      refine ih _ μ0 μ2 (rr_FM_tr hF (rr_FM_tr (fun p k a b' c' => iv_upd_ne _ _ (by omega)) hF2)) hM3 ?_
      rw [List.length_append]
      show c.length + 1 + V.length ≤ 160
      omega
    · rw [iv_upd_same, e] at g
      exact g ⟨by omega, by omega⟩
theorem rr_test {d : Nat} {base : Nat} {c : List Int} {μ : iv_M} (hL : L ≤ 3072) (hd : 10 ≤ d) : ∀ (W : List Nat), W.length ≤ 160 → (∀ k : Nat, k < W.length → μ 203 (k : Int) = rr_f (W.reverse.getD k 0)) → iv_G L xs vz d 300 7 [some (14, 195), some (0, (W.length : Int) - 1)] [] μ (fun q μ' => μ' = μ ∧ q = some (0, if mc_ts W = true then 1 else 0)) := by
  intro W
  induction W with
  | nil =>
    intro _ _
    exact sg_300_7 hL (by omega) (fun _ => ⟨rfl, rfl⟩) (fun q => absurd q (by decide)) (fun q => absurd q (by decide))
  | cons t V ih =>
    intro hl hM
    have hl : V.length + 1 ≤ 160 := hl
    have el : (((t :: V).length : Nat) : Int) - 1 = (V.length : Int) := by
      show ((V.length + 1 : Nat) : Int) - 1 = _
      omega
    rw [el]
    have htop : μ 203 (V.length : Int) = rr_f t := by rw [hM V.length (Nat.lt_succ_self _), rr_rev, if_neg (Nat.lt_irrefl _), if_pos rfl]
    refine sg_300_7 hL (by omega) (fun q => by exfalso; omega) (fun _ _ => ?_) (fun _ g => g ⟨by omega, by omega⟩)
    rw [htop]
    refine iv_call (want := 0) (y := 300) (pc := 17) (z := 299) (cls := 0) (sa := [(0, rr_f t)]) (th := []) (r := []) (d' := d - 1) (show iv_cck 0 300 17 299 = true by decide +kernel) (Or.inr ⟨rfl, rfl⟩) (show iv_mck 0 299 1 0 1 = true by decide +kernel) (show (0 : Nat) ≤ 8 by decide) (by omega) (iv_C_mono (rr_rank hL (by omega) t) (fun q μ' hq => ?_))
    obtain ⟨rfl, rfl⟩ := hq
    have h5 := mc_rk5 t
    refine sg_300_20 hL (by omega) (fun _ q => by exfalso; omega) (fun q _ _ => ?_) (fun _ _ g => g ⟨by omega, by omega⟩) (fun q => ?_)
    · rw [htop]
      refine iv_call (want := 0) (y := 300) (pc := 40) (z := 299) (cls := 0) (sa := [(0, rr_f t)]) (th := []) (r := []) (d' := d - 1) (show iv_cck 0 300 40 299 = true by decide +kernel) (Or.inr ⟨rfl, rfl⟩) (show iv_mck 0 299 1 0 1 = true by decide +kernel) (show (0 : Nat) ≤ 8 by decide) (by omega) (iv_C_mono (rr_rank hL (by omega) t) (fun q μ' hq => ?_))
      obtain ⟨rfl, rfl⟩ := hq
      have et : mc_ts (t :: V) = Nat.beq (mc_rk t) 4 := by
        show (if 4 < mc_rk t then _ else _) = _
        rw [if_neg (by omega)]
      refine sg_300_43 hL (by omega) (fun q => ⟨rfl, ?_⟩) (fun q => ⟨rfl, ?_⟩)
      · rw [if_neg]
        rw [et]
        intro h
        have := Nat.eq_of_beq_eq_true h
        omega
      · rw [if_pos]
        rw [et, show mc_rk t = 4 by omega]
        rfl
    · have et : mc_ts (t :: V) = mc_ts V := by
        show (if 4 < mc_rk t then _ else _) = _
        rw [if_pos (by omega)]
      rw [et, show iv_w ((V.length : Int) + -1) = (V.length : Int) - 1 by rw [iv_w_id (by omega) (by omega)]; omega]
      exact ih (by omega) (fun k hk => by rw [hM k (by show k < V.length + 1; omega), rr_rev, if_pos hk])
theorem rr_isT {d : Nat} {base : Nat} {c : List Int} {W : List Nat} {μ : iv_M} (hL : L ≤ 3072) (hd : 10 ≤ d) (hM : rr_M W c base μ) (hW : W.length ≤ 160) : iv_C L xs vz d 300 [(14, 195)] μ (fun q μ' => μ' = μ ∧ q = some (0, if mc_ts W = true then 1 else 0)) := by
  refine iv_C_of (sg_300_0 hL (by omega) ?_)
  rw [hM.1, iv_w_id (by omega) (by omega)]
  exact rr_test (base := base) (c := c) hL hd W hW hM.2.1
end RRM
