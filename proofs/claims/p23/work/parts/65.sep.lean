/-! ===== runs from cut to cut: what grows less ===== -/
def se_df (ds : List se_D) (o : Nat) (v : se_V) : Option (se_V × se_V) := if v.1 = 1 ∧ v.2.2 = 0 then match ds[v.2.1]? with
    | some (_, o', x, y) => if Nat.beq o' o then some (x, y) else none
    | none => none
  else none
def se_sml (ds : List se_D) (r : se_V) : Bool := Nat.beq (se_kd ds r) 0 && (match se_rg ds r with
  | (l, h) => se_le 0 l && se_le h 30)
/-- 1 << r: r -/
def se_shl (ds : List se_D) (s : se_V) : Option se_V := match se_df ds 7 s with
  | some (o, r) => if se_eq o (0, 0, 1) && se_sml ds r then some r else none
  | none => none
/-- (w >> r) & 1: w, r -/
def se_bt (ds : List se_D) (u : se_V) : Option (se_V × se_V) := match se_df ds 4 u with
  | some (e, o) => if se_eq o (0, 0, 1) then se_df ds 8 e else none
  | none => none
def se_ltA (ds : List se_D) (P : se_P) (v w : se_V) : Bool := match se_df ds 4 v with
  | some (x, y) => (se_nn ds y && se_lub ds P y w 1) || (se_nn ds x && se_lub ds P x w 1)
  | none => false
/-- a bit that is there is taken away -/
def se_ltB (ds : List se_D) (v w : se_V) : Bool := match se_df ds 4 v with
  | some (x, y) => se_eq x w && (se_nn ds w && (match se_df ds 6 y with
    | some (s, m) => se_eq m (0, 0, -1) && (match se_shl ds s with
      | some r => (List.range ds.length).any (fun k => match ds[k]? with
        | some ((kd, lo, hi), _) => Nat.beq kd 0 && (decide (lo = 1) && (decide (hi = 1) && (match se_bt ds (1, k, 0) with
          | some (w', r') => se_eq w' w && se_eq r' r
          | none => false)))
        | none => false)
      | none => false)
    | none => false))
  | none => false
/-- bits come of which one was not there -/
def se_ltC (ds : List se_D) (P : se_P) (v w : se_V) : Bool := if v.1 = -1 ∧ v.2.2 = 0 ∧ w.1 = -1 ∧ w.2.2 = 0 then (match se_df ds 5 (1, v.2.1, 0) with
    | some (x, y) => se_eq x (1, w.2.1, 0) && (se_nn ds x && (match se_df ds 5 y with
      | some (a, b) => (match se_shl ds a, se_shl ds b with
        | some r0, some r1 => P.any (fun e => match e with
          | (.ne, u0, u1) => (match se_bt ds u0, se_bt ds u1 with
            | some (x0, q0), some (x1, q1) => se_eq x0 x && (se_eq x1 x && (se_eq q0 r0 && se_eq q1 r1))
            | _, _ => false)
          | _ => false)
        | _, _ => false)
      | none => false))
    | none => false) else false
def se_lt (ds : List se_D) (P : se_P) (v w : se_V) : Bool := se_lub ds P v w 1 || (se_ltA ds P v w || (se_ltB ds v w || se_ltC ds P v w))
def se_lex (ds : List se_D) (P : se_P) (σ : List se_V) : Nat → List se_V → List se_V → Bool
  | n + 1, v :: t, w :: s => Nat.beq (se_kd ds w) 0 && se_sb σ v false (fun v => Nat.beq (se_kd ds v) 0 && (if se_eq v w then se_lex ds P σ n t s else se_lt ds P v w))
  | _, _, _ => false
section SES
variable {ty : Nat → Option Nat} {ρ τ : List Value} {ds : List se_D} {P : se_P} {σ : List se_V}
theorem se_df_ok {o : Nat} {v x y : se_V} {z : Value} (h : se_df ds o v = some (x, y)) (ho : o ≠ 0) (ho2 : o ≠ 20) (hk : se_kd ds v = 0) (he : se_env ty ρ ds) (hv : se_v ρ v = some z) : ∃ a b : Int32, se_v ρ x = some (.int a) ∧ se_v ρ y = some (.int b) ∧ z = .int (se_op o a b) ∨ ∃ a b : Int64, o = 22 ∧ se_v ρ x = some (.long a) ∧ se_v ρ y = some (.long b) := by
  unfold se_df at h
  split at h
  · next e =>
    split at h
    · next kk o' x' y' hd =>
      split at h
      · next eo =>
        have eo := Nat.eq_of_beq_eq_true eo
        subst eo
        cases h
        obtain ⟨w, w1, w2⟩ := he.2 _ _ hd
        have hw : se_v ρ v = some w := by
          have e : v = (1, v.2.1, 0) := Prod.ext e.1 (Prod.ext rfl e.2)
          rw [e]
          exact se_v_one w1
        rw [hv] at hw
        cases hw
        obtain ⟨va, vb, x1, x2, x3⟩ := w2.2 ho
        dsimp only at x1 x2 x3
        unfold se_opv at x3
        split at x3
        · next a b =>
          rw [if_neg ho2] at x3
          cases x3
          exact ⟨a, b, Or.inl ⟨x1, x2, rfl⟩⟩
        · next a b =>
          split at x3
          · cases x3
            obtain ⟨n, en, _⟩ := se_int he hv hk
            cases en
          · split at x3
            · next e22 => exact ⟨0, 0, Or.inr ⟨a, b, e22, x1, x2⟩⟩
            · cases x3
        · cases x3
      · cases h
    · cases h
  · cases h
/-- of ints alone -/
theorem se_df_i {o : Nat} {v x y : se_V} {z : Int32} (h : se_df ds o v = some (x, y)) (ho : o ≠ 0 ∧ o ≠ 20 ∧ o ≠ 22) (he : se_env ty ρ ds) (hv : se_v ρ v = some (.int z)) : ∃ a b : Int32, se_v ρ x = some (.int a) ∧ se_v ρ y = some (.int b) ∧ z = se_op o a b := by
  obtain ⟨a, b, h1⟩ := se_df_ok h ho.1 ho.2.1 (se_isInt he hv) he hv
  rcases h1 with ⟨h1, h2, h3⟩ | ⟨_, _, h1, _⟩
  · cases h3
    exact ⟨a, b, h1, h2, rfl⟩
  · exact absurd h1 ho.2.2
theorem se_sml_ok {r : se_V} {z : Int32} (h : se_sml ds r = true) (he : se_env ty ρ ds) (hr : se_v ρ r = some (.int z)) : 0 ≤ z.toInt ∧ z.toInt ≤ 30 := by
  replace h : (Nat.beq (se_kd ds r) 0 && (se_le 0 (se_rg ds r).1 && se_le (se_rg ds r).2 30)) = true := h
  rw [Bool.and_eq_true, Bool.and_eq_true, se_le_iff, se_le_iff] at h
  obtain ⟨n, en, a1, a2⟩ := se_int he hr (Nat.eq_of_beq_eq_true h.1)
  cases en
  omega
theorem se_two {r : Int32} (h0 : 0 ≤ r.toInt) (h1 : r.toInt ≤ 30) : ((1 : Int32) <<< (r &&& 31)).toInt = (2 ^ r.toInt.toNat : Nat) := by
  have := se_shl1 r.toInt.toNat (by omega)
  have ey : r = Int32.ofNat r.toInt.toNat := by
    rw [← Int32.ofInt_eq_ofNat, Int.toNat_of_nonneg h0, Int32.ofInt_toInt]
  rw [← ey] at this
  exact this
theorem se_shn : ∀ n, n < 31 → ((Int32.ofNat n &&& 31).toBitVec.smod 32).toNat = n := by decide
theorem se_bit {x r : Int32} (hx : 0 ≤ x.toInt) (h0 : 0 ≤ r.toInt) (h1 : r.toInt ≤ 30) : (se_op 4 (se_op 8 x r) 1).toInt = ((x.toBitVec.toNat / 2 ^ r.toInt.toNat % 2 : Nat) : Int) := by
  have hn := se_nonneg hx
  have ey : r = Int32.ofNat r.toInt.toNat := by
    rw [← Int32.ofInt_eq_ofNat, Int.toNat_of_nonneg h0, Int32.ofInt_toInt]
  have e : (x >>> (r &&& 31)).toInt = x.toInt >>> ((r &&& 31).toBitVec.smod 32).toNat := by
    rw [← Int32.toInt_toBitVec, Int32.toBitVec_shiftRight, BitVec.toInt_sshiftRight', Int32.toInt_toBitVec]
  have e2 : ((r &&& 31).toBitVec.smod 32).toNat = r.toInt.toNat := by
    have := se_shn r.toInt.toNat (by omega)
    rw [← ey] at this
    exact this
  rw [e2, hn, Int.shiftRight_eq_div_pow] at e
  have hq := se_shr (x := x) (y := r) hx
  have hqn := se_nonneg hq.1
  have e3 : (x >>> (r &&& 31)).toBitVec.toNat = x.toBitVec.toNat / 2 ^ r.toInt.toNat := by
    have : ((x >>> (r &&& 31)).toBitVec.toNat : Int) = ((x.toBitVec.toNat / 2 ^ r.toInt.toNat : Nat) : Int) := by
      rw [← hqn, e]
      simp
    exact Int.ofNat.inj this
  have e4 : ((x >>> (r &&& 31)) &&& 1).toBitVec.toNat = x.toBitVec.toNat / 2 ^ r.toInt.toNat % 2 := by
    rw [Int32.toBitVec_and, BitVec.toNat_and, e3]
    show _ &&& 1 = _
    exact Nat.and_one_is_mod _
  show ((x >>> (r &&& 31)) &&& 1).toInt = _
  exact se_toNat e4 (by have := Nat.mod_lt (x.toBitVec.toNat / 2 ^ r.toInt.toNat) (show 0 < 2 by decide); omega)
theorem se_clr {x r : Int32} (hx : 0 ≤ x.toInt) (h0 : 0 ≤ r.toInt) (h1 : r.toInt ≤ 30) (hb : x.toBitVec.toNat / 2 ^ r.toInt.toNat % 2 = 1) : (x &&& (((1 : Int32) <<< (r &&& 31)) ^^^ (-1))).toInt < x.toInt := by
  have hn := se_nonneg hx
  have h2 := se_and_l (x := x) (y := ((1 : Int32) <<< (r &&& 31)) ^^^ (-1)) hx
  have h3 := se_two h0 h1
  have hp : (0 : Int) ≤ ((1 : Int32) <<< (r &&& 31)).toInt := by rw [h3]; exact Int.natCast_nonneg _
  have h4 : ((1 : Int32) <<< (r &&& 31)).toBitVec.toNat = 2 ^ r.toInt.toNat := by
    have := se_nonneg hp
    rw [h3] at this
    exact (Int.ofNat.inj this).symm
  apply Int.lt_iff_le_and_ne.mpr
  refine ⟨h2.2, fun e => ?_⟩
  have hnn := se_nonneg h2.1
  rw [hn, hnn] at e
  have e := Int.ofNat.inj e
  rw [Int32.toBitVec_and, BitVec.toNat_and, Int32.toBitVec_xor, BitVec.toNat_xor, h4] at e
  have t := congrArg (fun n => Nat.testBit n r.toInt.toNat) e
  simp only [Nat.testBit_and, Nat.testBit_xor, Nat.testBit_two_pow_self] at t
  have t1 : Nat.testBit x.toBitVec.toNat r.toInt.toNat = true := by rw [Nat.testBit_eq_decide_div_mod_eq, hb]; rfl
  have t2 : Nat.testBit ((-1 : Int32).toBitVec.toNat) r.toInt.toNat = true := by
    have : (-1 : Int32).toBitVec.toNat = 2 ^ 32 - 1 := by decide
    rw [this, Nat.testBit_two_pow_sub_one]
    exact decide_eq_true (by omega)
  rw [t1, t2] at t
  simp at t
theorem se_grw {x r0 r1 : Int32} (hx : 0 ≤ x.toInt) (a0 : 0 ≤ r0.toInt) (a1 : r0.toInt ≤ 30) (b0 : 0 ≤ r1.toInt) (b1 : r1.toInt ≤ 30) (hb : x.toBitVec.toNat / 2 ^ r0.toInt.toNat % 2 ≠ x.toBitVec.toNat / 2 ^ r1.toInt.toNat % 2) : x.toInt < (x ||| (((1 : Int32) <<< (r0 &&& 31)) ||| ((1 : Int32) <<< (r1 &&& 31)))).toInt := by
  have hn := se_nonneg hx
  have n2 : ∀ {r : Int32}, 0 ≤ r.toInt → r.toInt ≤ 30 → 0 ≤ ((1 : Int32) <<< (r &&& 31)).toInt ∧ ((1 : Int32) <<< (r &&& 31)).toBitVec.toNat = 2 ^ r.toInt.toNat := fun {r} q0 q1 => by
    have h3 := se_two q0 q1
    have hp : (0 : Int) ≤ ((1 : Int32) <<< (r &&& 31)).toInt := by rw [h3]; exact Int.natCast_nonneg _
    refine ⟨hp, ?_⟩
    have := se_nonneg hp
    rw [h3] at this
    exact (Int.ofNat.inj this).symm
  obtain ⟨p1, q1⟩ := n2 a0 a1
  obtain ⟨p2, q2⟩ := n2 b0 b1
  have m := se_or (h := se_hi) p1 p2 (se_i32 _).2 (se_i32 _).2 (Int.le_refl _)
  have o1 : 0 ≤ (((1 : Int32) <<< (r0 &&& 31)) ||| ((1 : Int32) <<< (r1 &&& 31))).toInt := by omega
  have m2 := se_or (h := se_hi) hx o1 (se_i32 _).2 (se_i32 _).2 (Int.le_refl _)
  apply Int.lt_iff_le_and_ne.mpr
  refine ⟨m2.1, fun e => ?_⟩
  have hnn := se_nonneg (x := x ||| (((1 : Int32) <<< (r0 &&& 31)) ||| ((1 : Int32) <<< (r1 &&& 31)))) (by omega)
  rw [hn, hnn] at e
  have e := Int.ofNat.inj e
  rw [Int32.toBitVec_or, BitVec.toNat_or, Int32.toBitVec_or, BitVec.toNat_or, q1, q2] at e
  have t : ∀ i, Nat.testBit x.toBitVec.toNat i = (Nat.testBit x.toBitVec.toNat i || (Nat.testBit (2 ^ r0.toInt.toNat) i || Nat.testBit (2 ^ r1.toInt.toNat) i)) := fun i => by
    have := congrArg (fun n => Nat.testBit n i) e
    simp only [Nat.testBit_or] at this
    exact this
  have t0 := t r0.toInt.toNat
  have t1 := t r1.toInt.toNat
  rw [Nat.testBit_two_pow_self] at t0 t1
  rw [Bool.true_or, Bool.or_true] at t0
  rw [Bool.or_true, Bool.or_true] at t1
  rw [Nat.testBit_eq_decide_div_mod_eq] at t0 t1
  have t0 := of_decide_eq_true t0
  have t1 := of_decide_eq_true t1
  omega
end SES
