/-! ===== leastOf of the reference, by hand ===== -/
theorem ls_0 : decode (sx_fi 237).2.1 0 = .ok (.iconst 0, 1) := (sx_dec (y := 237) (full := sx_c237) rfl (e := (0, .iconst 0, 1, 0, 0, 0, 0)) (List.mem_of_getElem? (i := 0) rfl)).1
theorem ls_1 : decode (sx_fi 237).2.1 1 = .ok (.istore_n 1, 1) := (sx_dec (y := 237) (full := sx_c237) rfl (e := (1, .istore_n 1, 1, 0, 0, 0, 0)) (List.mem_of_getElem? (i := 1) rfl)).1
theorem ls_2 : decode (sx_fi 237).2.1 2 = .ok (.iload_n 0, 1) := (sx_dec (y := 237) (full := sx_c237) rfl (e := (2, .iload_n 0, 1, 0, 0, 0, 0)) (List.mem_of_getElem? (i := 2) rfl)).1
theorem ls_3 : decode (sx_fi 237).2.1 3 = .ok (.iload_n 1, 1) := (sx_dec (y := 237) (full := sx_c237) rfl (e := (3, .iload_n 1, 1, 0, 0, 0, 0)) (List.mem_of_getElem? (i := 3) rfl)).1
theorem ls_4 : decode (sx_fi 237).2.1 4 = .ok (.ishr, 1) := (sx_dec (y := 237) (full := sx_c237) rfl (e := (4, .ishr, 1, 0, 0, 0, 0)) (List.mem_of_getElem? (i := 4) rfl)).1
theorem ls_5 : decode (sx_fi 237).2.1 5 = .ok (.iconst 1, 1) := (sx_dec (y := 237) (full := sx_c237) rfl (e := (5, .iconst 1, 1, 0, 0, 0, 0)) (List.mem_of_getElem? (i := 5) rfl)).1
theorem ls_6 : decode (sx_fi 237).2.1 6 = .ok (.iand, 1) := (sx_dec (y := 237) (full := sx_c237) rfl (e := (6, .iand, 1, 0, 0, 0, 0)) (List.mem_of_getElem? (i := 6) rfl)).1
theorem ls_7 : decode (sx_fi 237).2.1 7 = .ok (.ifCond .ne 9, 3) := (sx_dec (y := 237) (full := sx_c237) rfl (e := (7, .ifCond .ne 9, 3, 0, 0, 0, 0)) (List.mem_of_getElem? (i := 7) rfl)).1
theorem ls_10 : decode (sx_fi 237).2.1 10 = .ok (.iinc 1 1, 3) := (sx_dec (y := 237) (full := sx_c237) rfl (e := (10, .iinc 1 1, 3, 0, 0, 0, 0)) (List.mem_of_getElem? (i := 8) rfl)).1
theorem ls_13 : decode (sx_fi 237).2.1 13 = .ok (.goto (-11), 3) := (sx_dec (y := 237) (full := sx_c237) rfl (e := (13, .goto (-11), 3, 0, 0, 0, 0)) (List.mem_of_getElem? (i := 9) rfl)).1
theorem ls_16 : decode (sx_fi 237).2.1 16 = .ok (.iload_n 1, 1) := (sx_dec (y := 237) (full := sx_c237) rfl (e := (16, .iload_n 1, 1, 0, 0, 0, 0)) (List.mem_of_getElem? (i := 10) rfl)).1
theorem ls_17 : decode (sx_fi 237).2.1 17 = .ok (.ireturn, 1) := (sx_dec (y := 237) (full := sx_c237) rfl (e := (17, .ireturn, 1, 0, 0, 0, 0)) (List.mem_of_getElem? (i := 11) rfl)).1
theorem ls_nL : (sx_fi 237).2.2.1 = 2 := rfl
theorem ls_rt : (mm_mths[237]?).map (fun t => t.2.2.2.2.1) = some (some .int) := rfl
theorem ls_kt {k : Nat} (h : k ≤ 10) : (Int32.ofNat k).toInt = (k : Int) := by
  rw [← Int32.ofInt_eq_ofNat]
  exact se_ofInt (by unfold se_lo; omega) (by unfold se_hi; omega)
section LSA
variable {kx : Nat} {zs : List mm_Zt} {Q : mm_S → Prop} {d : Nat} {mc : List mm_C}
theorem ls_loop {x : Int32} (hx1 : 1 ≤ x.toInt) (hx2 : x.toInt ≤ 1023) (hQ : ∀ (k : Nat) (lc : List (Nat × Value)) (cb sb : Nat), k ≤ 9 → Q (17, lc, [.int (Int32.ofNat k)], mc, cb, sb)) : ∀ (n k : Nat) (lc : List (Nat × Value)) (cb sb : Nat), n + k = 9 → (∀ j, j < k → x.toBitVec.toNat / 2 ^ j % 2 = 0) → mm_lget lc 0 = some (.int x) → mm_lget lc 1 = some (.int (Int32.ofNat k)) → mm_T kx zs Q [] d (sx_fi 237) (2, lc, [], mc, cb, sb) := by
  have hX := se_nonneg (x := x) (by omega)
  have key : ∀ (k : Nat) (lc : List (Nat × Value)) (cb sb : Nat), k ≤ 9 → mm_lget lc 0 = some (.int x) → mm_lget lc 1 = some (.int (Int32.ofNat k)) → (x.toBitVec.toNat / 2 ^ k % 2 = 0 → mm_T kx zs Q [] d (sx_fi 237) (10, lc, [], mc, cb, sb)) → mm_T kx zs Q [] d (sx_fi 237) (2, lc, [], mc, cb, sb) := by
    intro k lc cb sb hk h0 h1 hgo
    refine mm_T_step (σ' := (3, lc, [.int x], mc, cb, sb)) ls_2 rfl (by simp [mm_stp, mm_pure, mm_ldi, h0]) ?_
    refine mm_T_step (σ' := (4, lc, [.int (Int32.ofNat k), .int x], mc, cb, sb)) ls_3 rfl (by simp [mm_stp, mm_pure, mm_ldi, h1]) ?_
    refine mm_T_step (σ' := (5, lc, [.int (se_op 8 x (Int32.ofNat k))], mc, cb, sb)) ls_4 rfl rfl ?_
    refine mm_T_step (σ' := (6, lc, [.int 1, .int (se_op 8 x (Int32.ofNat k))], mc, cb, sb)) ls_5 rfl rfl ?_
    refine mm_T_step (σ' := (7, lc, [.int (se_op 4 (se_op 8 x (Int32.ofNat k)) 1)], mc, cb, sb)) ls_6 rfl rfl ?_
    have hkt := ls_kt (k := k) (by omega)
    have hb := se_bit (x := x) (r := Int32.ofNat k) (by omega) (by omega) (by omega)
    rw [hkt, Int.toNat_natCast] at hb
    generalize se_op 4 (se_op 8 x (Int32.ofNat k)) 1 = v at hb ⊢
    have ht : mm_tgt 7 9 = some 16 := rfl
    by_cases hz : x.toBitVec.toNat / 2 ^ k % 2 = 0
    · have hv : v = 0 := Int32.toInt_inj.mp (by rw [hb, hz]; rfl)
      subst hv
      exact mm_T_step (σ' := (10, lc, [], mc, cb, sb)) ls_7 rfl (by simp [mm_stp, mm_pure, mm_if1, ht, mm_P1]) (hgo hz)
    · have hv : ¬ v = 0 := fun e => by
        rw [e] at hb
        have : (0 : Int32).toInt = 0 := by decide
        omega
      refine mm_T_step (σ' := (16, lc, [], mc, cb, sb)) ls_7 rfl (by simp [mm_stp, mm_pure, mm_if1, ht, mm_P1, hv]) ?_
      refine mm_T_step (σ' := (17, lc, [.int (Int32.ofNat k)], mc, cb, sb)) ls_16 rfl (by simp [mm_stp, mm_pure, mm_ldi, h1]) ?_
      exact mm_T_fin ls_17 rfl (hQ k lc cb sb hk)
  intro n
  induction n with
  | zero =>
    intro k lc cb sb hnk hlow h0 h1
    refine key k lc cb sb (by omega) h0 h1 (fun hz => ?_)
    exfalso
    have hk : k = 9 := by omega
    subst hk
    have b0 := hlow 0 (by omega)
    have b1 := hlow 1 (by omega)
    have b2 := hlow 2 (by omega)
    have b3 := hlow 3 (by omega)
    have b4 := hlow 4 (by omega)
    have b5 := hlow 5 (by omega)
    have b6 := hlow 6 (by omega)
    have b7 := hlow 7 (by omega)
    have b8 := hlow 8 (by omega)
    omega
  | succ n ih =>
    intro k lc cb sb hnk hlow h0 h1
    refine key k lc cb sb (by omega) h0 h1 (fun hz => ?_)
    have hn : Int32.ofNat k + Int32.ofInt 1 = Int32.ofNat (k + 1) := by
      rw [← Int32.ofInt_eq_ofNat, ← Int32.ofInt_eq_ofNat, ← Int32.ofInt_add]
      rfl
    refine mm_T_step (σ' := (13, mm_l1 lc 1 (.int (Int32.ofNat (k + 1))), [], mc, cb, sb)) ls_10 rfl (by simp [mm_stp, mm_pure, mm_inc, h1, ls_nL, hn]) ?_
    refine mm_T_step (σ' := (2, mm_l1 lc 1 (.int (Int32.ofNat (k + 1))), [], mc, cb, sb)) ls_13 rfl (by simp [mm_stp, mm_pure, mm_go, show mm_tgt 13 (-11) = some 2 from rfl]) ?_
    refine ih (k + 1) _ cb sb (by omega) (fun j hj => ?_) (mm_lget_l1 h0 (by decide) (fun q => by have := q.2; simp [Value.category] at this)) mm_lget_l1s
    by_cases e : j = k
    · subst e; exact hz
    · exact hlow j (by omega)
end LSA
theorem sm_h1 {ty : Nat → Option Nat} {J : List mm_C → Prop} {kx : Nat} {zs : List mm_Zt} : se_Met ty se_tt J kx zs sc_h1 := by
  intro d t ρ As m0 hd ht he hgl hM hP htm hJm
  obtain ⟨w, w1, w2⟩ := he.2 0 _ rfl
  obtain ⟨x, rfl, a1, a2⟩ := w2.1
  obtain ⟨xv, x1, x2⟩ := hgl 0 (1, 0, 0) rfl
  rw [se_v_one w1] at x2
  cases x2
  have hlen : ρ.length = 1 := he.1
  have hrt := ls_rt
  have ht' : mm_mths[237]? = some t := ht
  rw [ht'] at hrt
  have hrt : t.2.2.2.2.1 = some .int := Option.some.inj hrt
  have hfi : sx_fi 237 = mm_fi t := sx_cods_mths ht'
  have hT : mm_T kx zs (se_Q ty se_tt J sc_h1 t ρ m0) [] d (sx_fi 237) (mm_ent 237 As m0) := by
    refine mm_T_step (σ' := (1, lv_args 0 As, [.int (Int32.ofInt 0)], m0, (mm_bud 237).1, (mm_bud 237).2)) ls_0 rfl rfl ?_
    refine mm_T_step (σ' := (2, mm_l1 (lv_args 0 As) 1 (.int (Int32.ofInt 0)), [], m0, (mm_bud 237).1, (mm_bud 237).2)) ls_1 rfl (by simp [mm_stp, mm_pure, mm_sti, ls_nL]) ?_
    refine ls_loop (x := x) a1 a2 (fun k lc cb sb hk => ?_) 9 0 _ _ _ rfl (fun j hj => absurd hj (Nat.not_lt_zero _)) (mm_lget_l1 x1 (by decide) (fun q => by have := q.2; simp [Value.category] at this)) mm_lget_l1s
    refine ⟨some (.int (Int32.ofNat k)), ?_, _, List.mem_cons_self, [.int (Int32.ofNat k)], ?_, fun e q => absurd q List.not_mem_nil, fun e q => absurd q List.not_mem_nil, (fun q => by cases q), fun rv q => ?_, htm, hJm, fun _ _ => rfl, fun _ _ _ _ _ => rfl⟩
    · have hdd : decode t.2.2.1 17 = .ok (.ireturn, 1) := by
        have := ls_17
        rw [hfi] at this
        exact this
      unfold mm_ret
      rw [hdd]
      dsimp only
      rw [hrt]
      exact if_pos rfl
    · refine se_env_new he (se_dok0 ⟨_, rfl, ?_, ?_⟩)
      · rw [ls_kt (by omega)]
        exact Int.natCast_nonneg k
      · rw [ls_kt (by omega)]
        show (k : Int) ≤ 9
        omega
    · cases q
      refine ⟨_, rfl, ?_⟩
      have := se_v_new ρ (.int (Int32.ofNat k))
      rw [hlen] at this
      exact this
  obtain ⟨n, τ, r1, v, r2, r3⟩ := hT
  rw [hfi] at r1
  exact ⟨n, τ, v, r1, r2, r3⟩
