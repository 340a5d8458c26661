/-! ===== the law's loop ===== -/
theorem la_alk {ty : Nat → Option Nat} {x : Nat → Int32} {r : List se_K} (h : la_al r (fun j => x (j + 1))) : ∀ c, se_k ty (la_rk r c) (.int (x c)) := by
  have key : ∀ (r : List se_K) (y : Nat → Int32), la_al r y → ∀ (c : Nat) (k : se_K), r[c]? = some k → la_in k (y c) := by
    intro r
    induction r with
    | nil => intro y _ c k hk; simp at hk
    | cons a r ih =>
      intro y hy c k hk
      cases c with
      | zero =>
        simp at hk
        subst hk
        exact hy.1
      | succ c =>
        simp only [List.getElem?_cons_succ] at hk
        exact ih _ hy.2 c k hk
  intro c
  cases c with
  | zero => exact ⟨_, rfl, se_i32 _⟩
  | succ c =>
    show se_k ty (match r[c]? with | some k => k | none => (0, se_lo, se_hi)) _
    split
    · next k ek =>
      obtain ⟨k1, k2, k3⟩ := key r _ h c k ek
      unfold se_k
      rw [k1]
      exact ⟨_, rfl, k2, k3⟩
    · exact ⟨_, rfl, se_i32 _⟩
def la_off : Array Int := #[175, 218, 271, 304, 337, 396, 465, 518, 551, 584, 617, 680, 703, 736, 769, 782, 805, 838, 871, 904, 927, 990, 1013, 1046, 1069, 1102, 1135, 1158, 1181, 1214, 1247, 1296, 1339, 1372, 1405, 1448, 1491, 1554, 1567, 1580]
theorem la_offs : ∀ k, k < 40 → ∃ off, la_off[k]? = some off ∧ ∃ p, mm_tgt 33 off = some p ∧ (p = la_cmp ∨ p ∈ la_arms) := by
  have h : ∀ k, k < 40 → (match la_off[k]? with | some off => (match mm_tgt 33 off with | some p => Nat.beq p la_cmp || la_arms.contains p | none => false) | none => false) = true := by decide +kernel
  intro k hk
  have h := h k hk
  split at h
  · next off eo =>
    refine ⟨off, eo, ?_⟩
    split at h
    · next p ep =>
      refine ⟨p, ep, ?_⟩
      rw [Bool.or_eq_true] at h
      rcases h with h | h
      · exact Or.inl (Nat.eq_of_beq_eq_true h)
      · exact Or.inr (List.contains_iff_mem.mp h)
    · cases h
  · cases h
theorem la_sw (x : Int32) (lc : List (Nat × Value)) : ∃ p, mm_sw 1603 0 39 la_off 33 lc [.int x] = some (p, lc, []) ∧ (p = 1636 ∨ p = la_cmp ∨ p ∈ la_arms) := by
  unfold mm_sw
  dsimp only
  by_cases h : x.toInt < 0 ∨ 39 < x.toInt
  · rw [if_pos h]
    exact ⟨1636, rfl, Or.inl rfl⟩
  · rw [if_neg h]
    obtain ⟨off, h1, p, h2, h3⟩ := la_offs (x.toInt - 0).toNat (by omega)
    rw [h1]
    dsimp only
    rw [h2]
    exact ⟨p, rfl, Or.inr h3⟩
section LAH
variable {ty : Nat → Option Nat} {kx : Nat} {zs : List mm_Zt} {d L : Nat} {xs : Nat → Int32}
theorem la_scr {j : Nat} (hj : j < L) : (mm_scr L xs)[j]? = some (.int (xs j)) := by
  unfold mm_scr
  rw [List.getElem?_map, List.getElem?_range hj]
  rfl
theorem la_scrl : (mm_scr L xs).length = L := by
  unfold mm_scr
  simp
def la_L (ty : Nat → Option Nat) (i : Nat) (lc : List (Nat × Value)) : Prop := mm_lget lc 0 = some (.ref 0) ∧ (∃ q, mm_lget lc 1 = some (.ref q) ∧ ty q = some 88) ∧ (∃ q, mm_lget lc 2 = some (.ref q) ∧ ty q = some 89) ∧ mm_lget lc 3 = some (hb_z (i : Int))
def la_Q (τ : mm_S) : Prop := τ.2.2.1 = [.int 1] ∧ decode code τ.1 = .ok (.ireturn, 1)
theorem la_fi : sx_fi 330 = (13, code, 4, false) := rfl
theorem la_arm (hO : se_Ok ty (rw_J ty) kx zs) (hz : ∃ tz, zs.find? (fun t => decide (t.1 = "jdk/internal/util/Preconditions" ∧ t.2.1 = "SIOOBE_FORMATTER" ∧ t.2.2.1 = "Ljava/util/function/BiFunction;")) = some tz ∧ tz.2.2.2.category = 1) (hd : 520 ≤ d) (h0 : ty 0 = none) {Q : mm_S → Prop} {i p : Nat} {lc : List (Nat × Value)} {m : List mm_C} {cb sb : Nat} (hi : i ≤ 5000) (hL : i + 6 ≤ L) (hl : la_L ty i lc) (hm : la_I ty (rw_J ty) (mm_scr L xs) m) (hend : ∀ (m : List mm_C) (cb sb : Nat), la_I ty (rw_J ty) (mm_scr L xs) m → mm_T kx zs Q [] (d + 1) (sx_fi 330) (1636, lc, [], m, cb, sb)) (hp : p = 1636 ∨ p = la_cmp ∨ p ∈ la_arms) : mm_T kx zs Q [] (d + 1) (sx_fi 330) (p, lc, [], m, cb, sb) := by
  obtain ⟨l0, ⟨q1, l1, t1⟩, ⟨q2, l2, t2⟩, l3⟩ := hl
  rcases hp with rfl | rfl | hp
  · exact hend m cb sb hm
  · obtain ⟨r, hr, hal⟩ := la_regs (fun j => xs (i + (j + 1)))
    exact la_go_ok (A := la_rk r) (la_all hO hz) hd h0 hi (fun c hc => ⟨xs (i + c), la_scr (by omega), la_alk (x := fun c => xs (i + c)) hal c⟩) l0 l1 t1 l2 t2 l3 hend 200 _ [] (List.all_eq_true.mp la_regc r hr) (fun e he => la_dw.1 e he) la_cmp [] m cb sb la_dw.2 trivial hm
  · exact la_go_ok (A := la_any) (la_all hO hz) hd h0 hi (fun c hc => ⟨xs (i + c), la_scr (by omega), ⟨_, rfl, se_i32 _⟩⟩) l0 l1 t1 l2 t2 l3 hend 200 _ [] (List.all_eq_true.mp la_armc p hp) (fun e he => la_dw.1 e he) p [] m cb sb la_dw.2 trivial hm
theorem la_loop (hO : se_Ok ty (rw_J ty) kx zs) (hz : ∃ tz, zs.find? (fun t => decide (t.1 = "jdk/internal/util/Preconditions" ∧ t.2.1 = "SIOOBE_FORMATTER" ∧ t.2.2.1 = "Ljava/util/function/BiFunction;")) = some tz ∧ tz.2.2.2.category = 1) (hd : 520 ≤ d) (h0 : ty 0 = none) (hL : L ≤ 3072) : ∀ (n i : Nat) (lc : List (Nat × Value)) (m : List mm_C) (cb sb : Nat), L ≤ n + i → i ≤ 3078 → la_L ty i lc → la_I ty (rw_J ty) (mm_scr L xs) m → mm_T kx zs la_Q [] (d + 1) (sx_fi 330) (18, lc, [], m, cb, sb) := by
  have hfin : ∀ (lc : List (Nat × Value)) (m : List mm_C) (cb sb : Nat), mm_T kx zs la_Q [] (d + 1) (sx_fi 330) (1642, lc, [], m, cb, sb) := by
    intro lc m cb sb
    refine mm_T_step (σ' := (1643, lc, [.int 1], m, cb, sb)) hd_330_1642 rfl (by simp [mm_stp, mm_pure, mm_push]) ?_
    exact mm_T_fin hd_330_1643 rfl ⟨rfl, hd_330_1643⟩
  have head : ∀ (i : Nat) (lc : List (Nat × Value)) (m : List mm_C) (cb sb : Nat), i ≤ 3078 → la_L ty i lc → la_I ty (rw_J ty) (mm_scr L xs) m → (i + 6 ≤ L → mm_T kx zs la_Q [] (d + 1) (sx_fi 330) (27, lc, [], m, cb, sb)) → mm_T kx zs la_Q [] (d + 1) (sx_fi 330) (18, lc, [], m, cb, sb) := by
    intro i lc m cb sb hi hl hm hgo
    have l3 : mm_lget lc 3 = some (.int (Int32.ofInt (i : Int))) := hl.2.2.2
    have l0 := hl.1
    refine mm_T_step (σ' := (19, lc, [.int (Int32.ofInt (i : Int))], m, cb, sb)) hd_330_18 rfl (by have l3' : mm_lget lc ((3 : Fin 4).val) = some (.int (Int32.ofInt (i : Int))) := l3; simp [mm_stp, mm_pure, mm_ldi, l3']) ?_
    refine mm_T_step (σ' := (20, lc, [.ref 0, .int (Int32.ofInt (i : Int))], m, cb, sb)) hd_330_19 rfl (by simp [mm_stp, mm_pure, mm_lda, l0]) ?_
    refine mm_T_step (σ' := (21, lc, [.int (Int32.ofNat L), .int (Int32.ofInt (i : Int))], m, cb, sb)) hd_330_20 rfl ?_ ?_
    · show mm_alenS 1 (20, lc, [.ref 0, .int (Int32.ofInt (i : Int))], m, cb, sb) = _
      unfold mm_alenS
      dsimp only
      rw [hm.2.2]
      dsimp only
      rw [if_pos rfl, la_scrl]
    refine mm_T_step (σ' := (23, lc, [.int 6, .int (Int32.ofNat L), .int (Int32.ofInt (i : Int))], m, cb, sb)) hd_330_21 rfl (by simp [mm_stp, mm_pure, mm_push]) ?_
    refine mm_T_step (σ' := (24, lc, [.int (Int32.ofNat L - 6), .int (Int32.ofInt (i : Int))], m, cb, sb)) hd_330_23 rfl (by simp [mm_stp, mm_pure, mm_bii]) ?_
    have e1 : (Int32.ofNat L - 6).toInt = (L : Int) - 6 := by
      rw [show Int32.ofNat L - 6 = Int32.ofInt ((L : Int) - 6) by rw [Int32.ofInt_sub]; rfl]
      exact se_ofInt (by unfold se_lo; omega) (by unfold se_hi; omega)
    have e2 : (Int32.ofInt (i : Int)).toInt = (i : Int) := se_ofInt (by unfold se_lo; omega) (by unfold se_hi; omega)
    by_cases h : i + 6 ≤ L
    · refine mm_T_step (σ' := (27, lc, [], m, cb, sb)) hd_330_24 rfl ?_ (hgo h)
      have : ¬ (Int32.ofNat L - 6 < Int32.ofInt (i : Int)) := fun q => by
        rw [Int32.lt_iff_toInt_lt, e1, e2] at q
        omega
      simp [mm_stp, mm_pure, mm_if2, mm_tgt, mm_P2, this]
    · refine mm_T_step (σ' := (1642, lc, [], m, cb, sb)) hd_330_24 rfl ?_ (hfin lc m cb sb)
      have : Int32.ofNat L - 6 < Int32.ofInt (i : Int) := by
        rw [Int32.lt_iff_toInt_lt, e1, e2]
        omega
      simp [mm_stp, mm_pure, mm_if2, mm_tgt, mm_P2, this]
  intro n
  induction n with
  | zero =>
    intro i lc m cb sb hn hi hl hm
    exact head i lc m cb sb hi hl hm (fun h => by omega)
  | succ n ih =>
    intro i lc m cb sb hn hi hl hm
    refine head i lc m cb sb hi hl hm (fun h => ?_)
    have l3 : mm_lget lc 3 = some (.int (Int32.ofInt (i : Int))) := hl.2.2.2
    have l0 := hl.1
    have e2 : (Int32.ofInt (i : Int)).toInt = (i : Int) := se_ofInt (by unfold se_lo; omega) (by unfold se_hi; omega)
    have e3 : (Int32.ofInt (i : Int)).toNatClampNeg = i := by
      show (Int32.ofInt (i : Int)).toInt.toNat = i
      rw [e2]
      rfl
    have hneg : ¬ Int32.ofInt (i : Int) < 0 := fun q => by
      rw [Int32.lt_iff_toInt_lt, e2] at q
      have : (0 : Int32).toInt = 0 := by decide
      omega
    refine mm_T_step (σ' := (28, lc, [.ref 0], m, cb, sb)) hd_330_27 rfl (by simp [mm_stp, mm_pure, mm_lda, l0]) ?_
    refine mm_T_step (σ' := (29, lc, [.int (Int32.ofInt (i : Int)), .ref 0], m, cb, sb)) hd_330_28 rfl (by have l3' : mm_lget lc ((3 : Fin 4).val) = some (.int (Int32.ofInt (i : Int))) := l3; simp [mm_stp, mm_pure, mm_ldi, l3']) ?_
    refine mm_T_step (σ' := (30, lc, [.int (xs i)], m, cb, sb)) hd_330_29 rfl ?_ ?_
    · show mm_aldS (fun ty => decide (ty = .int)) 1 (29, lc, [.int (Int32.ofInt (i : Int)), .ref 0], m, cb, sb) = _
      unfold mm_aldS
      dsimp only
      rw [hm.2.2]
      dsimp only
      rw [if_pos ⟨rfl, decide_eq_true rfl, fun q => q.elim hneg (fun q => by rw [e3, la_scrl] at q; omega)⟩, e3, la_scr (by omega)]
      rfl
    refine mm_T_step (σ' := (32, lc, [.int 63, .int (xs i)], m, cb, sb)) hd_330_30 rfl (by simp [mm_stp, mm_pure, mm_push]) ?_
    refine mm_T_step (σ' := (33, lc, [.int (xs i &&& 63)], m, cb, sb)) hd_330_32 rfl (by simp [mm_stp, mm_pure, mm_bii]) ?_
    obtain ⟨p, hp1, hp2⟩ := la_sw (xs i &&& 63) lc
    refine mm_T_step (σ' := (p, lc, [], m, cb, sb)) hd_330_33 rfl ?_ ?_
    · unfold mm_stp
      rw [show mm_pure (sx_fi 330).2.2.1 (.tableswitch 1603 0 39 #[175, 218, 271, 304, 337, 396, 465, 518, 551, 584, 617, 680, 703, 736, 769, 782, 805, 838, 871, 904, 927, 990, 1013, 1046, 1069, 1102, 1135, 1158, 1181, 1214, 1247, 1296, 1339, 1372, 1405, 1448, 1491, 1554, 1567, 1580]) 175 33 lc [.int (xs i &&& 63)] = some (p, lc, []) from hp1]
    · refine la_arm hO hz hd h0 (by omega) h hl hm (fun m cb sb hm => ?_) hp2
      have e4 : Int32.ofInt (i : Int) + Int32.ofInt 6 = Int32.ofInt ((i + 6 : Nat) : Int) := by
        rw [← Int32.ofInt_add]
        rfl
      refine mm_T_step (σ' := (1639, mm_l1 lc 3 (.int (Int32.ofInt ((i + 6 : Nat) : Int))), [], m, cb, sb)) hd_330_1636 rfl (by rw [← e4]; simp [mm_stp, mm_pure, mm_inc, l3, la_fi]) ?_
      refine mm_T_step (σ' := (18, mm_l1 lc 3 (.int (Int32.ofInt ((i + 6 : Nat) : Int))), [], m, cb, sb)) hd_330_1639 rfl (by simp [mm_stp, mm_pure, mm_go, mm_tgt]) ?_
      obtain ⟨-, ⟨q1, l1, t1⟩, ⟨q2, l2, t2⟩, -⟩ := hl
      exact ih (i + 6) _ m cb sb (by omega) (by omega) ⟨mm_lget_l1 l0 (by decide) (fun q => by have := q.2; simp [Value.category] at this), ⟨q1, mm_lget_l1 l1 (by decide) (fun q => by have := q.2; simp [Value.category] at this), t1⟩, ⟨q2, mm_lget_l1 l2 (by decide) (fun q => by have := q.2; simp [Value.category] at this), t2⟩, mm_lget_l1s⟩ hm
end LAH
