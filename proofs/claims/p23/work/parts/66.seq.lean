/-! ===== runs from cut to cut: measures ===== -/
section SET
variable {ty : Nat → Option Nat} {ρ τ : List Value} {ds : List se_D} {P : se_P} {σ : List se_V}
theorem se_shl_ok {s r : se_V} {z : Int32} (h : se_shl ds s = some r) (he : se_env ty ρ ds) (hs : se_v ρ s = some (.int z)) : ∃ b : Int32, se_v ρ r = some (.int b) ∧ z = (1 : Int32) <<< (b &&& 31) ∧ 0 ≤ b.toInt ∧ b.toInt ≤ 30 := by
  unfold se_shl at h
  split at h
  · next o r' hd =>
    split at h
    · next e =>
      cases h
      rw [Bool.and_eq_true] at e
      obtain ⟨a, b, h1, h2, rfl⟩ := se_df_i hd (by decide) he hs
      rw [se_eq_ok e.1, se_v_c] at h1
      cases h1
      exact ⟨b, h2, rfl, se_sml_ok e.2 he h2⟩
    · cases h
  · cases h
theorem se_bt_ok {u w r : se_V} {z : Int32} (h : se_bt ds u = some (w, r)) (he : se_env ty ρ ds) (hu : se_v ρ u = some (.int z)) : ∃ a b : Int32, se_v ρ w = some (.int a) ∧ se_v ρ r = some (.int b) ∧ z = se_op 4 (se_op 8 a b) 1 := by
  unfold se_bt at h
  split at h
  · next e o hd =>
    split at h
    · next eo =>
      obtain ⟨a, b, h1, h2, rfl⟩ := se_df_i hd (by decide) he hu
      obtain ⟨a', b', h3, h4, rfl⟩ := se_df_i h (by decide) he h1
      rw [se_eq_ok eo, se_v_c] at h2
      cases h2
      exact ⟨a', b', h3, h4, rfl⟩
    · cases h
  · cases h
theorem se_nnv {i : se_V} {z : Int32} (h : se_nn ds i = true) (he : se_env ty ρ ds) (hi : se_v ρ i = some (.int z)) : 0 ≤ z.toInt := by
  have := se_nn_ok h
  obtain ⟨n, en, a1, a2⟩ := se_int he hi (se_isInt he hi)
  cases en
  omega
theorem se_lt_ok {v w : se_V} {a b : Int32} (h : se_lt ds P v w = true) (he : se_env ty ρ ds) (hp : se_pf ρ P) (hv : se_v ρ v = some (.int a)) (hw : se_v ρ w = some (.int b)) : a.toInt < b.toInt := by
  unfold se_lt at h
  rw [Bool.or_eq_true, Bool.or_eq_true, Bool.or_eq_true] at h
  rcases h with h | h | h | h
  · obtain ⟨a', b', ea, eb, q⟩ := se_lub_ok he hp h hv hw
    cases ea
    cases eb
    omega
  · unfold se_ltA at h
    split at h
    · next x y hd =>
      obtain ⟨p, q, h1, h2, rfl⟩ := se_df_i hd (by decide) he hv
      rw [Bool.or_eq_true, Bool.and_eq_true, Bool.and_eq_true] at h
      rcases h with ⟨n1, n2⟩ | ⟨n1, n2⟩
      · have := (se_and_r (x := p) (y := q) (se_nnv n1 he h2)).2
        obtain ⟨a', b', ea, eb, z⟩ := se_lub_ok he hp n2 h2 hw
        cases ea
        cases eb
        show (p &&& q).toInt < b.toInt
        omega
      · have := (se_and_l (x := p) (y := q) (se_nnv n1 he h1)).2
        obtain ⟨a', b', ea, eb, z⟩ := se_lub_ok he hp n2 h1 hw
        cases ea
        cases eb
        show (p &&& q).toInt < b.toInt
        omega
    · cases h
  · unfold se_ltB at h
    split at h
    · next x y hd =>
      obtain ⟨p, q, h1, h2, rfl⟩ := se_df_i hd (by decide) he hv
      rw [Bool.and_eq_true, Bool.and_eq_true] at h
      obtain ⟨e1, e2, h⟩ := h
      rw [se_eq_ok e1, hw] at h1
      cases h1
      split at h
      · next s m hd2 =>
        obtain ⟨p2, q2, h3, h4, rfl⟩ := se_df_i hd2 (by decide) he h2
        rw [Bool.and_eq_true] at h
        obtain ⟨e3, h⟩ := h
        rw [se_eq_ok e3, se_v_c] at h4
        cases h4
        split at h
        · next r hr =>
          obtain ⟨rb, r1, rfl, r3, r4⟩ := se_shl_ok hr he h3
          obtain ⟨k, k1, k2⟩ := List.any_eq_true.mp h
          split at k2
          · next kd lo hi e' hdk =>
            rw [Bool.and_eq_true, Bool.and_eq_true, Bool.and_eq_true] at k2
            obtain ⟨c0, c1, c2, k2⟩ := k2
            have c0 := Nat.eq_of_beq_eq_true c0
            have c1 := of_decide_eq_true c1
            have c2 := of_decide_eq_true c2
            subst c0
            subst c1
            subst c2
            split at k2
            · next w' r' hbt =>
              rw [Bool.and_eq_true] at k2
              obtain ⟨wk, wk1, wk2⟩ := he.2 _ _ hdk
              obtain ⟨nk, rfl, nk1, nk2⟩ := wk2.1
              obtain ⟨aa, bb, z1, z2, z3⟩ := se_bt_ok hbt he (se_v_one wk1)
              rw [se_eq_ok k2.1, hw] at z1
              rw [se_eq_ok k2.2, r1] at z2
              cases z1
              cases z2
              have hb0 := se_nnv e2 he hw
              have hbit := se_bit hb0 r3 r4
              rw [← z3] at hbit
              have nk1 : (1 : Int) ≤ nk.toInt := nk1
              have nk2 : nk.toInt ≤ 1 := nk2
              exact se_clr hb0 r3 r4 (by omega)
            · cases k2
          · cases k2
        · cases h
      · cases h
    · cases h
  · unfold se_ltC at h
    split at h
    · next e0 =>
      obtain ⟨v1, v2, w1, w2⟩ := e0
      have hve : v = (-1, v.2.1, 0) := Prod.ext v1 (Prod.ext rfl v2)
      have hwe : w = (-1, w.2.1, 0) := Prod.ext w1 (Prod.ext rfl w2)
      have conv : ∀ {k : Nat} {z : Int32}, se_v ρ (-1, k, 0) = some (.int z) → ∃ n : Int32, se_v ρ (1, k, 0) = some (.int n) ∧ z = -n := by
        intro k z hz
        obtain ⟨n, n1, n2⟩ := se_v_lin he hz (by decide : (-1 : Int) ≠ 0)
        refine ⟨n, se_v_one n1, ?_⟩
        rw [n2]
        show Int32.ofInt (-1 * n.toInt + 0) = -n
        rw [Int.add_zero, Int.neg_mul, Int.one_mul, Int32.ofInt_neg, Int32.ofInt_toInt]
      rw [hve] at hv
      rw [hwe] at hw
      obtain ⟨na, ha, rfl⟩ := conv hv
      obtain ⟨nb, hb, rfl⟩ := conv hw
      have key : 0 ≤ nb.toInt ∧ nb.toInt < na.toInt := by
        split at h
        · next x y hd =>
          obtain ⟨p, q, h1, h2, rfl⟩ := se_df_i hd (by decide) he ha
          rw [Bool.and_eq_true, Bool.and_eq_true] at h
          obtain ⟨e1, e2, h⟩ := h
          have e1 := se_eq_ok e1
          subst e1
          rw [hb] at h1
          cases h1
          split at h
          · next a b hd2 =>
            obtain ⟨p2, q2, h3, h4, rfl⟩ := se_df_i hd2 (by decide) he h2
            split at h
            · next r0 r1 hr0 hr1 =>
              obtain ⟨b0, b01, rfl, b03, b04⟩ := se_shl_ok hr0 he h3
              obtain ⟨b1, b11, rfl, b13, b14⟩ := se_shl_ok hr1 he h4
              obtain ⟨f, f1, f2⟩ := List.any_eq_true.mp h
              split at f2
              · next u0 u1 =>
                split at f2
                · next x0 q0 x1 q1 hb0 hb1 =>
                  rw [Bool.and_eq_true, Bool.and_eq_true, Bool.and_eq_true] at f2
                  obtain ⟨f3, f4, f5, f6⟩ := f2
                  obtain ⟨c, d, c1, c2, c3⟩ := hp _ f1
                  dsimp only at c1 c2 c3
                  obtain ⟨aa, bb, z1, z2, z3⟩ := se_bt_ok hb0 he c1
                  obtain ⟨aa', bb', z4, z5, z6⟩ := se_bt_ok hb1 he c2
                  rw [se_eq_ok f3, hb] at z1
                  rw [se_eq_ok f5, b01] at z2
                  rw [se_eq_ok f4, hb] at z4
                  rw [se_eq_ok f6, b11] at z5
                  cases z1
                  cases z2
                  cases z4
                  cases z5
                  have hx0 := se_nnv e2 he hb
                  have t0 := se_bit hx0 b03 b04
                  have t1 := se_bit hx0 b13 b14
                  rw [← z3] at t0
                  rw [← z6] at t1
                  have hne : c.toInt ≠ d.toInt := by
                    have : c ≠ d := by simpa [mm_P2] using c3
                    exact fun e => this (Int32.toInt_inj.mp e)
                  exact ⟨hx0, se_grw hx0 b03 b04 b13 b14 (fun e => hne (by rw [t0, t1, e]))⟩
                · cases f2
              · cases f2
            · cases h
          · cases h
        · cases h
      have i1 := se_i32 na
      have i2 := se_i32 nb
      unfold se_lo se_hi at i1 i2
      have g : ∀ {n : Int32}, 0 ≤ n.toInt → (-n).toInt = -n.toInt := fun {n} q => by
        have := se_i32 n
        unfold se_hi at this
        rw [show -n = Int32.ofInt (-n.toInt) by rw [Int32.ofInt_neg, Int32.ofInt_toInt], se_ofInt (by unfold se_lo; omega) (by unfold se_hi; omega)]
      rw [g key.1, g (by omega)]
      omega
    · cases h
/-- a tuple as one number -/
def se_dig (ρ : List Value) (v : se_V) : Nat := match se_v ρ v with
  | some (.int x) => (x.toInt + 2147483648).toNat
  | _ => 0
def se_enc (ρ : List Value) : Nat → List se_V → Nat
  | n + 1, v :: t => se_dig ρ v * 4294967296 ^ n + se_enc ρ n t
  | _, _ => 0
theorem se_dig_lt (ρ : List Value) (v : se_V) : se_dig ρ v < 4294967296 := by
  unfold se_dig
  split
  · next x _ =>
    have := se_i32 x
    unfold se_lo se_hi at this
    omega
  · decide
theorem se_enc_lt (ρ : List Value) : ∀ (n : Nat) (l : List se_V), se_enc ρ n l < 4294967296 ^ n
  | 0, l => by
    have : se_enc ρ 0 l = 0 := by cases l <;> rfl
    rw [this]
    decide
  | n + 1, [] => Nat.pow_pos (by decide)
  | n + 1, v :: t => by
    have h1 := se_enc_lt ρ n t
    have h2 := se_dig_lt ρ v
    show se_dig ρ v * 4294967296 ^ n + se_enc ρ n t < 4294967296 ^ (n + 1)
    have h3 : (se_dig ρ v + 1) * 4294967296 ^ n ≤ 4294967296 * 4294967296 ^ n := Nat.mul_le_mul_right _ h2
    rw [Nat.add_mul, Nat.one_mul] at h3
    rw [Nat.pow_succ, Nat.mul_comm (4294967296 ^ n)]
    omega
theorem se_lex_ok (he : se_env ty ρ ds) (hp : se_pf ρ P) (h : sx_r2 (se_sv ρ) σ τ) (hw0 : ∀ (v : se_V), se_kd ds v = 0 → ∃ x, se_v ρ v = some x) : ∀ (n : Nat) {a b : List se_V}, se_lex ds P σ n a b = true → se_enc τ n a < se_enc ρ n b
  | 0, a, b, hq => by cases a <;> cases b <;> cases hq
  | n + 1, [], b, hq => by cases b <;> cases hq
  | n + 1, v :: t, [], hq => by cases hq
  | n + 1, v :: t, w :: s, hq => by
    have hq : (Nat.beq (se_kd ds w) 0 && se_sb σ v false (fun v => Nat.beq (se_kd ds v) 0 && (if se_eq v w then se_lex ds P σ n t s else se_lt ds P v w))) = true := hq
    rw [Bool.and_eq_true] at hq
    obtain ⟨xw, hxw⟩ := hw0 w (Nat.eq_of_beq_eq_true hq.1)
    obtain ⟨b, rfl, _⟩ := se_int he hxw (Nat.eq_of_beq_eq_true hq.1)
    obtain ⟨v', x, h1, h2, h3⟩ := se_sb_ok h hq.2 (by decide)
    rw [Bool.and_eq_true] at h1
    obtain ⟨a, rfl, _⟩ := se_int he h2 (Nat.eq_of_beq_eq_true h1.1)
    have d1 : se_dig τ v = (a.toInt + 2147483648).toNat := by unfold se_dig; rw [h3]
    have d2 : se_dig ρ w = (b.toInt + 2147483648).toNat := by unfold se_dig; rw [hxw]
    show se_dig τ v * 4294967296 ^ n + se_enc τ n t < se_dig ρ w * 4294967296 ^ n + se_enc ρ n s
    have h4 := h1.2
    split at h4
    · next e =>
      have e := se_eq_ok e
      subst e
      rw [hxw] at h2
      cases h2
      have := se_lex_ok he hp h hw0 n h4
      rw [d1, d2]
      omega
    · have hlt := se_lt_ok h4 he hp h2 hxw
      have i1 := se_i32 a
      unfold se_lo at i1
      have hd : se_dig τ v + 1 ≤ se_dig ρ w := by rw [d1, d2]; omega
      have h5 := Nat.mul_le_mul_right (4294967296 ^ n) hd
      rw [Nat.add_mul, Nat.one_mul] at h5
      have := se_enc_lt τ n t
      omega
end SET
